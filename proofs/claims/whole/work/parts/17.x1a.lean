set_option maxHeartbeats 4000000 in
set_option maxRecDepth 100000 in
theorem c_X1_thrown (l : Launch) (D : va_G) (cy : Nat → ClassId) (a : Nat → Nat) (hi : wInj 9 a) {e : Nat → va_E} {n T th : Nat} {S : Nat → UInt64} {M E : T2} {r : Nat → Nat} {nw od : Nat → UInt64} {cn bf : Nat → Int64} (h : RM cy a e n T th S M E r nw od cn bf)  : Met l yX1_thrown wsX1_thrown ({ frames := 0, cells := 0, slots := 0, locals := 0 }) (gPc D clP cy 9 a e [.ref (a 0)]) (va_Qi (fun z e1 => e1 = e ∧ z = nI th) (gB D clP 9 a) (wA 9 a)) 0 0 (wA 9 a) := by
  refine g_met (cc := cX1_thrown) (maxL := 1) (ret := (some .int)) (lv := [(0, .ref (a 0))]) (by decide) rfl (Nat.le_of_ble_eq_true rfl) rfl hi (fun k hk => ⟨k, hk, rfl⟩) ?_
  intro p en s m below meth c C hr hlocks
  have hin : ∀ w ∈ u_ws RX1 TX1 11, w ∈ wsX1_thrown := by decide +kernel
  have f_thrown := C.2.2.2.2.1 (.fieldLink RX1 40 "PathOddsModel" "thrown" "I") (by decide +kernel)
  obtain ⟨h0, hS, hM, hE, hr0, hnw, hod, hcn, hbf⟩ := id h
  refine g_aload_n C dX1_thrown_0 rfl 0 rfl ?_
  refine g_get C 2 hin inl_pos1 (by decide) h0 (by decide) f_thrown rfl dX1_thrown_1 ?_
  exact g_iret C hr hlocks (⟨rfl, rfl⟩) dX1_thrown_4

set_option maxHeartbeats 4000000 in
set_option maxRecDepth 100000 in
theorem c_X1_state (l : Launch) (D : va_G) (cy : Nat → ClassId) (a : Nat → Nat) (hi : wInj 9 a) {e : Nat → va_E} {n T th : Nat} {S : Nat → UInt64} {M E : T2} {r : Nat → Nat} {nw od : Nat → UInt64} {cn bf : Nat → Int64} (h : RM cy a e n T th S M E r nw od cn bf) (hb : n ≤ 100) (x : Int32) : Met l yX1_state wsX1_state ({ frames := 0, cells := 0, slots := 0, locals := 0 }) (gPc D clP cy 9 a e [.ref (a 0), .int x]) (va_Qi (fun z e1 => e1 = e ∧ inB n x z) (gB D clP 9 a) (wA 9 a)) 0 0 (wA 9 a) := by
  refine g_met (cc := cX1_state) (maxL := 2) (ret := (some .boolean)) (lv := [(0, .ref (a 0)), (1, .int x)]) (by decide) rfl (Nat.le_of_ble_eq_true rfl) rfl hi (fun k hk => ⟨k, hk, rfl⟩) ?_
  intro p en s m below meth c C hr hlocks
  have hin : ∀ w ∈ u_ws RX1 TX1 11, w ∈ wsX1_state := by decide +kernel
  have f_n := C.2.2.2.2.1 (.fieldLink RX1 36 "PathOddsModel" "n" "I") (by decide +kernel)
  obtain ⟨h0, hS, hM, hE, hr0, hnw, hod, hcn, hbf⟩ := id h
  refine g_iload_n C dX1_state_0 rfl 1 rfl ?_
  refine g_if_lt (tgt := 16) C dX1_state_1 (by decide) (fun c1 => ?_) (fun c1 => ?_)
  · refine g_iconst (v := nI 0) C dX1_state_16 (by decide) ?_
    exact g_zret C hr hlocks (by decide) (⟨rfl, Or.inr ⟨rfl, inB_neg (by omega) c1⟩⟩) dX1_state_17
  · refine g_iload_n C dX1_state_4 rfl 1 rfl ?_
    refine g_aload_n C dX1_state_5 rfl 0 rfl ?_
    refine g_get C 0 hin inl_pos1 (by decide) h0 (by decide) f_n rfl dX1_state_6 ?_
    refine g_icmp_ge (tgt := 16) C dX1_state_9 (by decide) (fun c2 => ?_) (fun c2 => ?_)
    · refine g_iconst (v := nI 0) C dX1_state_16 (by decide) ?_
      exact g_zret C hr hlocks (by decide) (⟨rfl, Or.inr ⟨rfl, inB_big (by omega) c2⟩⟩) dX1_state_17
    · refine g_iconst (v := nI 1) C dX1_state_12 (by decide) ?_
      refine g_goto (tgt := 17) C dX1_state_13 (by decide) ?_
      exact g_zret C hr hlocks (by decide) (⟨rfl, Or.inl ⟨rfl, inB_in (by omega) c1 c2⟩⟩) dX1_state_17

set_option maxHeartbeats 4000000 in
set_option maxRecDepth 100000 in
theorem c_X1_symbol (l : Launch) (D : va_G) (cy : Nat → ClassId) (a : Nat → Nat) (hi : wInj 9 a) {e : Nat → va_E} {n T th : Nat} {S : Nat → UInt64} {M E : T2} {r : Nat → Nat} {nw od : Nat → UInt64} {cn bf : Nat → Int64} (h : RM cy a e n T th S M E r nw od cn bf) (x : Int32) : Met l yX1_symbol wsX1_symbol ({ frames := 0, cells := 0, slots := 0, locals := 0 }) (gPc D clP cy 9 a e [.int x]) (va_Qi (fun z e1 => e1 = e ∧ inB 4 x z) (gB D clP 9 a) (wA 9 a)) 0 0 (wA 9 a) := by
  refine g_met (cc := cX1_symbol) (maxL := 1) (ret := (some .boolean)) (lv := [(0, .int x)]) (by decide) rfl (Nat.le_of_ble_eq_true rfl) rfl hi (fun k hk => ⟨k, hk, rfl⟩) ?_
  intro p en s m below meth c C hr hlocks
  refine g_iload_n C dX1_symbol_0 rfl 0 rfl ?_
  refine g_if_lt (tgt := 13) C dX1_symbol_1 (by decide) (fun c1 => ?_) (fun c1 => ?_)
  · refine g_iconst (v := nI 0) C dX1_symbol_13 (by decide) ?_
    exact g_zret C hr hlocks (by decide) (⟨rfl, Or.inr ⟨rfl, inB_neg (by omega) c1⟩⟩) dX1_symbol_14
  · refine g_iload_n C dX1_symbol_4 rfl 0 rfl ?_
    refine g_iconst (v := nI 3) C dX1_symbol_5 (by decide) ?_
    refine g_icmp_gt (tgt := 13) C dX1_symbol_6 (by decide) (fun c2 => ?_) (fun c2 => ?_)
    · refine g_iconst (v := nI 0) C dX1_symbol_13 (by decide) ?_
      exact g_zret C hr hlocks (by decide) (⟨rfl, Or.inr ⟨rfl, sym_hi c2⟩⟩) dX1_symbol_14
    · refine g_iconst (v := nI 1) C dX1_symbol_9 (by decide) ?_
      refine g_goto (tgt := 14) C dX1_symbol_10 (by decide) ?_
      exact g_zret C hr hlocks (by decide) (⟨rfl, Or.inl ⟨rfl, sym_in c1 c2⟩⟩) dX1_symbol_14

set_option maxHeartbeats 4000000 in
set_option maxRecDepth 100000 in
theorem c_X1_unit (l : Launch) (D : va_G) (cy : Nat → ClassId) (a : Nat → Nat) (hi : wInj 9 a) {e : Nat → va_E} {n T th : Nat} {S : Nat → UInt64} {M E : T2} {r : Nat → Nat} {nw od : Nat → UInt64} {cn bf : Nat → Int64} (h : RM cy a e n T th S M E r nw od cn bf) (x : UInt64) : Met l yX1_unit wsX1_unit ({ frames := 0, cells := 0, slots := 0, locals := 0 }) (gPc D clP cy 9 a e [.double x]) (va_Qi (fun z e1 => e1 = e ∧ okB x z) (gB D clP 9 a) (wA 9 a)) 0 0 (wA 9 a) := by
  refine g_met (cc := cX1_unit) (maxL := 2) (ret := (some .boolean)) (lv := [(0, .double x)]) (by decide) rfl (Nat.le_of_ble_eq_true rfl) rfl hi (fun k hk => ⟨k, hk, rfl⟩) ?_
  intro p en s m below meth c C hr hlocks
  refine g_dload_n C dX1_unit_0 rfl 0 rfl ?_
  refine g_dconst0 C dX1_unit_1 ?_
  refine g_dcmp C dX1_unit_2 ?_
  refine g_if_lt (tgt := 16) C dX1_unit_3 (by decide) (fun c1 => ?_) (fun c1 => ?_)
  · refine g_iconst (v := nI 0) C dX1_unit_16 (by decide) ?_
    exact g_zret C hr hlocks (by decide) (⟨rfl, Or.inr ⟨rfl, fun q => q.1 c1⟩⟩) dX1_unit_17
  · refine g_dload_n C dX1_unit_6 rfl 0 rfl ?_
    refine g_dconst1 C dX1_unit_7 ?_
    refine g_dcmp C dX1_unit_8 ?_
    refine g_if_gt (tgt := 16) C dX1_unit_9 (by decide) (fun c2 => ?_) (fun c2 => ?_)
    · refine g_iconst (v := nI 0) C dX1_unit_16 (by decide) ?_
      exact g_zret C hr hlocks (by decide) (⟨rfl, Or.inr ⟨rfl, fun q => q.2 c2⟩⟩) dX1_unit_17
    · refine g_iconst (v := nI 1) C dX1_unit_12 (by decide) ?_
      refine g_goto (tgt := 17) C dX1_unit_13 (by decide) ?_
      exact g_zret C hr hlocks (by decide) (⟨rfl, Or.inl ⟨rfl, c1, c2⟩⟩) dX1_unit_17

set_option maxHeartbeats 4000000 in
set_option maxRecDepth 100000 in
theorem c_X1_size (l : Launch) (D : va_G) (cy : Nat → ClassId) (a : Nat → Nat) (hi : wInj 9 a) {e : Nat → va_E} {n T th : Nat} {S : Nat → UInt64} {M E : T2} {r : Nat → Nat} {nw od : Nat → UInt64} {cn bf : Nat → Int64} (h : RM cy a e n T th S M E r nw od cn bf)  : Met l yX1_size wsX1_size ({ frames := 0, cells := 0, slots := 0, locals := 0 }) (gPc D clP cy 9 a e [.ref (a 0)]) (va_Qi (fun z e1 => RM cy a e1 n T 0 S M E r nw od cn bf ∧ z = nI n) (gB D clP 9 a) (wA 9 a)) 0 0 (wA 9 a) := by
  refine g_met (cc := cX1_size) (maxL := 1) (ret := (some .int)) (lv := [(0, .ref (a 0))]) (by decide) rfl (Nat.le_of_ble_eq_true rfl) rfl hi (fun k hk => ⟨k, hk, rfl⟩) ?_
  intro p en s m below meth c C hr hlocks
  have hin : ∀ w ∈ u_ws RX1 TX1 11, w ∈ wsX1_size := by decide +kernel
  have f_thrown := C.2.2.2.2.1 (.fieldLink RX1 40 "PathOddsModel" "thrown" "I") (by decide +kernel)
  have f_n := C.2.2.2.2.1 (.fieldLink RX1 36 "PathOddsModel" "n" "I") (by decide +kernel)
  obtain ⟨h0, hS, hM, hE, hr0, hnw, hod, hcn, hbf⟩ := id h
  refine g_aload_n C dX1_size_0 rfl 0 rfl ?_
  refine g_iconst (v := nI 0) C dX1_size_1 (by decide) ?_
  refine g_putE C 2 tyX1 tyX1_ok nmX1 hin inl_pos1 (by decide) h0 (by decide) f_thrown rfl (ty := .int) (by decide +kernel) rfl rfl (Nat.le_of_ble_eq_true rfl) dX1_size_2 (fun e2 he2 => ?_)
  have h : RM cy a e2 n T 0 S M E r nw od cn bf := by rw [he2]; exact RM_obj h rfl
  generalize e2 = e0 at h ⊢
  obtain ⟨h0, hS, hM, hE, hr0, hnw, hod, hcn, hbf⟩ := id h
  refine g_aload_n C dX1_size_5 rfl 0 rfl ?_
  refine g_get C 0 hin inl_pos1 (by decide) h0 (by decide) f_n rfl dX1_size_6 ?_
  exact g_iret C hr hlocks (⟨h, rfl⟩) dX1_size_9

set_option maxHeartbeats 4000000 in
set_option maxRecDepth 100000 in
theorem c_X1_length (l : Launch) (D : va_G) (cy : Nat → ClassId) (a : Nat → Nat) (hi : wInj 9 a) {e : Nat → va_E} {n T th : Nat} {S : Nat → UInt64} {M E : T2} {r : Nat → Nat} {nw od : Nat → UInt64} {cn bf : Nat → Int64} (h : RM cy a e n T th S M E r nw od cn bf)  : Met l yX1_length wsX1_length ({ frames := 0, cells := 0, slots := 0, locals := 0 }) (gPc D clP cy 9 a e [.ref (a 0)]) (va_Qi (fun z e1 => RM cy a e1 n T 0 S M E r nw od cn bf ∧ z = nI T) (gB D clP 9 a) (wA 9 a)) 0 0 (wA 9 a) := by
  refine g_met (cc := cX1_length) (maxL := 1) (ret := (some .int)) (lv := [(0, .ref (a 0))]) (by decide) rfl (Nat.le_of_ble_eq_true rfl) rfl hi (fun k hk => ⟨k, hk, rfl⟩) ?_
  intro p en s m below meth c C hr hlocks
  have hin : ∀ w ∈ u_ws RX1 TX1 11, w ∈ wsX1_length := by decide +kernel
  have f_thrown := C.2.2.2.2.1 (.fieldLink RX1 40 "PathOddsModel" "thrown" "I") (by decide +kernel)
  have f_length := C.2.2.2.2.1 (.fieldLink RX1 43 "PathOddsModel" "length" "I") (by decide +kernel)
  obtain ⟨h0, hS, hM, hE, hr0, hnw, hod, hcn, hbf⟩ := id h
  refine g_aload_n C dX1_length_0 rfl 0 rfl ?_
  refine g_iconst (v := nI 0) C dX1_length_1 (by decide) ?_
  refine g_putE C 2 tyX1 tyX1_ok nmX1 hin inl_pos1 (by decide) h0 (by decide) f_thrown rfl (ty := .int) (by decide +kernel) rfl rfl (Nat.le_of_ble_eq_true rfl) dX1_length_2 (fun e2 he2 => ?_)
  have h : RM cy a e2 n T 0 S M E r nw od cn bf := by rw [he2]; exact RM_obj h rfl
  generalize e2 = e0 at h ⊢
  obtain ⟨h0, hS, hM, hE, hr0, hnw, hod, hcn, hbf⟩ := id h
  refine g_aload_n C dX1_length_5 rfl 0 rfl ?_
  refine g_get C 1 hin inl_pos1 (by decide) h0 (by decide) f_length rfl dX1_length_6 ?_
  exact g_iret C hr hlocks (⟨h, rfl⟩) dX1_length_9

/-- the reference's state, its two flat tables as they lie -/
def RMx (cy : Nat → ClassId) (b : Nat → Nat) (e : Nat → va_E) (n T th : Nat) (S v v2 : Nat → UInt64) (r : Nat → Nat) (nw od : Nat → UInt64) (cn bf : Nat → Int64) : Prop :=
  e 0 = .inr (1, [.int (nI n), .int (nI T), .int (nI th), .ref (b 1), .ref (b 2), .ref (b 3), .ref (b 4), .ref (b 5), .ref (b 6), .ref (b 7), .ref (b 8)]) ∧ isD cy (e 1) 6 S ∧ isD cy (e 2) 36 v ∧ isD cy (e 3) 24 v2 ∧ isI cy (e 4) 12 (fun t => nI (r t)) ∧ isD cy (e 5) 6 nw ∧ isD cy (e 6) 6 od ∧ isL cy (e 7) 6 cn ∧ isL cy (e 8) 6 bf
section RMxs
variable {cy : Nat → ClassId} {a : Nat → Nat} {e : Nat → va_E} {n T th : Nat} {S v v2 : Nat → UInt64} {M E : T2} {r : Nat → Nat} {nw od : Nat → UInt64} {cn bf : Nat → Int64}
theorem RMx_of (h : RM cy a e n T th S M E r nw od cn bf) : RMx cy a e n T th S (fun k => M (k / 6) (k % 6)) (fun k => E (k / 4) (k % 4)) r nw od cn bf := h
theorem RMx_S {x : Nat → UInt64} {y : va_E} (h : RMx cy a e n T th S v v2 r nw od cn bf) (hy : isD cy y 6 x) : RMx cy a (va_up e 1 y) n T th x v v2 r nw od cn bf := by
  obtain ⟨k0, kS, kM, kE, kr, k5, k6, k7, k8⟩ := h
  exact ⟨by rw [up_ne (by omega)]; exact k0, by rw [up_eq]; exact hy, by rw [up_ne (by omega)]; exact kM, by rw [up_ne (by omega)]; exact kE, by rw [up_ne (by omega)]; exact kr, by rw [up_ne (by omega)]; exact k5, by rw [up_ne (by omega)]; exact k6, by rw [up_ne (by omega)]; exact k7, by rw [up_ne (by omega)]; exact k8⟩
theorem RMx_M {x : Nat → UInt64} {y : va_E} (h : RMx cy a e n T th S v v2 r nw od cn bf) (hy : isD cy y 36 x) : RMx cy a (va_up e 2 y) n T th S x v2 r nw od cn bf := by
  obtain ⟨k0, kS, kM, kE, kr, k5, k6, k7, k8⟩ := h
  exact ⟨by rw [up_ne (by omega)]; exact k0, by rw [up_ne (by omega)]; exact kS, by rw [up_eq]; exact hy, by rw [up_ne (by omega)]; exact kE, by rw [up_ne (by omega)]; exact kr, by rw [up_ne (by omega)]; exact k5, by rw [up_ne (by omega)]; exact k6, by rw [up_ne (by omega)]; exact k7, by rw [up_ne (by omega)]; exact k8⟩
theorem RMx_E {x : Nat → UInt64} {y : va_E} (h : RMx cy a e n T th S v v2 r nw od cn bf) (hy : isD cy y 24 x) : RMx cy a (va_up e 3 y) n T th S v x r nw od cn bf := by
  obtain ⟨k0, kS, kM, kE, kr, k5, k6, k7, k8⟩ := h
  exact ⟨by rw [up_ne (by omega)]; exact k0, by rw [up_ne (by omega)]; exact kS, by rw [up_ne (by omega)]; exact kM, by rw [up_eq]; exact hy, by rw [up_ne (by omega)]; exact kr, by rw [up_ne (by omega)]; exact k5, by rw [up_ne (by omega)]; exact k6, by rw [up_ne (by omega)]; exact k7, by rw [up_ne (by omega)]; exact k8⟩
theorem RMx_to (h : RMx cy a e n T th S v v2 r nw od cn bf) (hz : ∀ q, q < 36 → v q = FP.dconst0) : RMx cy a e n T th S (fun k => z2 (k / 6) (k % 6)) v2 r nw od cn bf := by
  obtain ⟨k0, kS, kM, kE, kr, k5, k6, k7, k8⟩ := h
  exact ⟨k0, kS, kM.to hz, kE, kr, k5, k6, k7, k8⟩
theorem RM_E0 (h : RMx cy a e n T th S (fun k => M (k / 6) (k % 6)) v2 r nw od cn bf) (hz : ∀ q, q < 24 → v2 q = FP.dconst0) : RM cy a e n T th S M z2 r nw od cn bf := by
  obtain ⟨k0, kS, kM, kE, kr, k5, k6, k7, k8⟩ := h
  exact ⟨k0, kS, kM, kE.to hz, kr, k5, k6, k7, k8⟩
end RMxs

set_option maxHeartbeats 4000000 in
set_option maxRecDepth 100000 in
theorem c_X1_states (l : Launch) (D : va_G) (cy : Nat → ClassId) (a : Nat → Nat) (hi : wInj 9 a) {e : Nat → va_E} {n T th : Nat} {S : Nat → UInt64} {M E : T2} {r : Nat → Nat} {nw od : Nat → UInt64} {cn bf : Nat → Int64} (h : RM cy a e n T th S M E r nw od cn bf) (x : Int32) : Met l yX1_states wsX1_states ({ frames := 0, cells := 0, slots := 0, locals := 0 }) (gPc D clP cy 9 a e [.ref (a 0), .int x]) (va_Qi (fun z e1 => (z = nI 1 ∧ ∃ k, 1 ≤ k ∧ k ≤ 6 ∧ x = nI k ∧ RM cy a e1 k 0 0 z1 z2 z2 r nw od cn bf) ∨ (z = nI 0 ∧ (¬ ∃ k, 1 ≤ k ∧ k ≤ 6 ∧ x = nI k) ∧ RM cy a e1 n T 0 S M E r nw od cn bf)) (gB D clP 9 a) (wA 9 a)) 0 0 (wA 9 a) := by
  refine g_met (cc := cX1_states) (maxL := 3) (ret := (some .boolean)) (lv := [(0, .ref (a 0)), (1, .int x)]) (by decide) rfl (Nat.le_of_ble_eq_true rfl) rfl hi (fun k hk => ⟨k, hk, rfl⟩) ?_
  intro p en s m below meth c C hr hlocks
  have hin : ∀ w ∈ u_ws RX1 TX1 11, w ∈ wsX1_states := by decide +kernel
  have f_thrown := C.2.2.2.2.1 (.fieldLink RX1 40 "PathOddsModel" "thrown" "I") (by decide +kernel)
  have f_n := C.2.2.2.2.1 (.fieldLink RX1 36 "PathOddsModel" "n" "I") (by decide +kernel)
  have f_length := C.2.2.2.2.1 (.fieldLink RX1 43 "PathOddsModel" "length" "I") (by decide +kernel)
  have f_starts := C.2.2.2.2.1 (.fieldLink RX1 7 "PathOddsModel" "starts" "[D") (by decide +kernel)
  have f_moves := C.2.2.2.2.1 (.fieldLink RX1 13 "PathOddsModel" "moves" "[D") (by decide +kernel)
  have f_shows := C.2.2.2.2.1 (.fieldLink RX1 16 "PathOddsModel" "shows" "[D") (by decide +kernel)
  obtain ⟨h0, hS, hM, hE, hr0, hnw, hod, hcn, hbf⟩ := id h
  refine g_aload_n C dX1_states_0 rfl 0 rfl ?_
  refine g_iconst (v := nI 0) C dX1_states_1 (by decide) ?_
  refine g_putE C 2 tyX1 tyX1_ok nmX1 hin inl_pos1 (by decide) h0 (by decide) f_thrown rfl (ty := .int) (by decide +kernel) rfl rfl (Nat.le_of_ble_eq_true rfl) dX1_states_2 (fun e2 he2 => ?_)
  have h : RM cy a e2 n T 0 S M E r nw od cn bf := by rw [he2]; exact RM_obj h rfl
  generalize e2 = e0 at h ⊢
  obtain ⟨h0, hS, hM, hE, hr0, hnw, hod, hcn, hbf⟩ := id h
  refine g_iload_n C dX1_states_5 rfl 1 rfl ?_
  refine g_iconst (v := nI 1) C dX1_states_6 (by decide) ?_
  refine g_icmp_lt (tgt := 16) C dX1_states_7 (by decide) (fun c1 => ?_) (fun c1 => ?_)
  · refine g_iconst (v := nI 0) C dX1_states_16 (by decide) ?_
    exact g_zret C hr hlocks (by decide) (Or.inr ⟨rfl, rng16_lo c1, h⟩) dX1_states_17
  · refine g_iload_n C dX1_states_10 rfl 1 rfl ?_
    refine g_bipush (v := nI 6) C dX1_states_11 (by decide) ?_
    refine g_icmp_le (tgt := 18) C dX1_states_13 (by decide) (fun c2 => ?_) (fun c2 => ?_)
    · obtain ⟨k0, hk1, hk6, rfl⟩ := rng16 c1 c2
      refine g_aload_n C dX1_states_18 rfl 0 rfl ?_
      refine g_iload_n C dX1_states_19 rfl 1 rfl ?_
      refine g_putE C 0 tyX1 tyX1_ok nmX1 hin inl_pos1 (by decide) h0 (by decide) f_n rfl (ty := .int) (by decide +kernel) rfl rfl (Nat.le_of_ble_eq_true rfl) dX1_states_20 (fun e2 he2 => ?_)
      have h : RM cy a e2 k0 T 0 S M E r nw od cn bf := by rw [he2]; exact RM_obj h rfl
      obtain ⟨h0, hS, hM, hE, hr0, hnw, hod, hcn, hbf⟩ := id h
      refine g_aload_n C dX1_states_23 rfl 0 rfl ?_
      refine g_iconst (v := nI 0) C dX1_states_24 (by decide) ?_
      refine g_putE C 1 tyX1 tyX1_ok nmX1 hin inl_pos1 (by decide) h0 (by decide) f_length rfl (ty := .int) (by decide +kernel) rfl rfl (Nat.le_of_ble_eq_true rfl) dX1_states_25 (fun e2 he2 => ?_)
      have h : RM cy a e2 k0 0 0 S M E r nw od cn bf := by rw [he2]; exact RM_obj h rfl
      generalize e2 = e at h ⊢
      obtain ⟨h0, hS, hM, hE, hr0, hnw, hod, hcn, hbf⟩ := id h
      have L3 : ∀ (k : Nat) (j : Nat) (e : Nat → va_E) (S5 : Nat → UInt64) (M5 : T2) (v : Nat → UInt64), j + k = 24 → RMx cy a e k0 0 0 S5 (fun k => M5 (k / 6) (k % 6)) v r nw od cn bf → (∀ q, q < 6 → S5 q = FP.dconst0) → (∀ q u, q < 6 → u < 6 → M5 q u = FP.dconst0) → (∀ q, q < j → v q = FP.dconst0) → GW p l en ({ frames := 0, cells := 0, slots := 0, locals := 0 }) s m ([.ref (a 0), .int (nI k0)] : List Value).toArray below meth c 0 0 (MQ below (va_Qi (fun z e1 => (z = nI 1 ∧ ∃ k, 1 ≤ k ∧ k ≤ 6 ∧ nI k0 = nI k ∧ RM cy a e1 k 0 0 z1 z2 z2 r nw od cn bf) ∨ (z = nI 0 ∧ (¬ ∃ k, 1 ≤ k ∧ k ≤ 6 ∧ nI k0 = nI k) ∧ RM cy a e1 n T 0 S M E r nw od cn bf)) (gB D clP 9 a) (wA 9 a)) ([.ref (a 0), .int (nI k0)] : List Value).toArray s 0 0 (wA 9 a)) D clP 9 3 a (wA 9 a) e 72 [(0, .ref (a 0)), (1, .int (nI k0)), (2, .int (nI j))] [] := by
        intro k
        induction k with
        | zero =>
          intro j e S5 M5 v hk h hS0 hM0 hz
          obtain ⟨h0, hS, hM, hE, hr0, hnw, hod, hcn, hbf⟩ := id h
          refine g_iload_n C dX1_states_72 rfl 2 rfl ?_
          refine g_bipush (v := nI 24) C dX1_states_73 (by decide) ?_
          refine g_icmp_ge (tgt := 91) C dX1_states_75 (by decide) (fun c1 => ?_) (fun c1 => absurd c1 (fun q => q (nI_le (by omega) (by omega))))
          refine g_iconst (v := nI 1) C dX1_states_91 (by decide) ?_
          exact g_zret C hr hlocks (by decide) (Or.inl ⟨rfl, k0, hk1, hk6, rfl, RM_to (RM_E0 h (fun q hq => hz q (by omega))) (fun q hq => hS0 q hq) (fun q u hq hu => hM0 q u hq hu) (fun _ _ _ _ => rfl)⟩) dX1_states_92
        | succ k ih =>
          intro j e S5 M5 v hk h hS0 hM0 hz
          obtain ⟨h0, hS, hM, hE, hr0, hnw, hod, hcn, hbf⟩ := id h
          refine g_iload_n C dX1_states_72 rfl 2 rfl ?_
          refine g_bipush (v := nI 24) C dX1_states_73 (by decide) ?_
          refine g_icmp_ge (tgt := 91) C dX1_states_75 (by decide) (fun c1 => absurd c1 (nI_ge (by omega) (by decide))) (fun c1 => ?_)
          refine g_aload_n C dX1_states_78 rfl 0 rfl ?_
          refine g_get C 5 hin inl_pos1 (by decide) h0 (by decide) f_shows rfl dX1_states_79 ?_
          refine g_iload_n C dX1_states_82 rfl 2 rfl ?_
          refine g_dconst0 C dX1_states_83 ?_
          refine g_dast C (by omega) hE (by omega) (by decide) dX1_states_84 (fun y hy => ?_)
          have h := RMx_E h hy
          generalize va_up e 3 y = e at h ⊢
          refine g_iinc (v := nI (j + 1)) (k := 2) (lv' := [(0, .ref (a 0)), (1, .int (nI k0)), (2, .int (nI (j + 1)))]) C dX1_states_85 rfl (nI_inc j) (by decide) [1, 2, 0] rfl ?_
          refine g_goto (tgt := 72) C dX1_states_88 (by decide) ?_
          exact ih (j + 1) e S5 M5 _ (by omega) h hS0 hM0 (fun q hq => by
            by_cases hqj : q = j
            · subst hqj; exact va_up_self _ _ _
            · rw [va_up_ne _ _ hqj]; exact hz q (by omega))
      have L2 : ∀ (k : Nat) (j : Nat) (e : Nat → va_E) (S5 v v2 : Nat → UInt64), j + k = 36 → RMx cy a e k0 0 0 S5 v v2 r nw od cn bf → (∀ q, q < 6 → S5 q = FP.dconst0) → (∀ q, q < j → v q = FP.dconst0) → GW p l en ({ frames := 0, cells := 0, slots := 0, locals := 0 }) s m ([.ref (a 0), .int (nI k0)] : List Value).toArray below meth c 0 0 (MQ below (va_Qi (fun z e1 => (z = nI 1 ∧ ∃ k, 1 ≤ k ∧ k ≤ 6 ∧ nI k0 = nI k ∧ RM cy a e1 k 0 0 z1 z2 z2 r nw od cn bf) ∨ (z = nI 0 ∧ (¬ ∃ k, 1 ≤ k ∧ k ≤ 6 ∧ nI k0 = nI k) ∧ RM cy a e1 n T 0 S M E r nw od cn bf)) (gB D clP 9 a) (wA 9 a)) ([.ref (a 0), .int (nI k0)] : List Value).toArray s 0 0 (wA 9 a)) D clP 9 3 a (wA 9 a) e 51 [(0, .ref (a 0)), (1, .int (nI k0)), (2, .int (nI j))] [] := by
        intro k
        induction k with
        | zero =>
          intro j e S5 v v2 hk h hS0 hz
          obtain ⟨h0, hS, hM, hE, hr0, hnw, hod, hcn, hbf⟩ := id h
          refine g_iload_n C dX1_states_51 rfl 2 rfl ?_
          refine g_bipush (v := nI 36) C dX1_states_52 (by decide) ?_
          refine g_icmp_ge (tgt := 70) C dX1_states_54 (by decide) (fun c1 => ?_) (fun c1 => absurd c1 (fun q => q (nI_le (by omega) (by omega))))
          refine g_iconst (v := nI 0) C dX1_states_70 (by decide) ?_
          refine g_istore_n (lv' := [(0, .ref (a 0)), (1, .int (nI k0)), (2, .int (nI 0))]) C dX1_states_71 rfl (by decide) [1, 2, 0] rfl ?_
          exact L3 24 0 e S5 z2 v2 (by omega) (RMx_to h (fun q hq => hz q (by omega))) hS0 (fun _ _ _ _ => rfl) (fun q hq => absurd hq (by omega))
        | succ k ih =>
          intro j e S5 v v2 hk h hS0 hz
          obtain ⟨h0, hS, hM, hE, hr0, hnw, hod, hcn, hbf⟩ := id h
          refine g_iload_n C dX1_states_51 rfl 2 rfl ?_
          refine g_bipush (v := nI 36) C dX1_states_52 (by decide) ?_
          refine g_icmp_ge (tgt := 70) C dX1_states_54 (by decide) (fun c1 => absurd c1 (nI_ge (by omega) (by decide))) (fun c1 => ?_)
          refine g_aload_n C dX1_states_57 rfl 0 rfl ?_
          refine g_get C 4 hin inl_pos1 (by decide) h0 (by decide) f_moves rfl dX1_states_58 ?_
          refine g_iload_n C dX1_states_61 rfl 2 rfl ?_
          refine g_dconst0 C dX1_states_62 ?_
          refine g_dast C (by omega) hM (by omega) (by decide) dX1_states_63 (fun y hy => ?_)
          have h := RMx_M h hy
          generalize va_up e 2 y = e at h ⊢
          refine g_iinc (v := nI (j + 1)) (k := 2) (lv' := [(0, .ref (a 0)), (1, .int (nI k0)), (2, .int (nI (j + 1)))]) C dX1_states_64 rfl (nI_inc j) (by decide) [1, 2, 0] rfl ?_
          refine g_goto (tgt := 51) C dX1_states_67 (by decide) ?_
          exact ih (j + 1) e S5 _ v2 (by omega) h hS0 (fun q hq => by
            by_cases hqj : q = j
            · subst hqj; exact va_up_self _ _ _
            · rw [va_up_ne _ _ hqj]; exact hz q (by omega))
      have L1 : ∀ (k : Nat) (j : Nat) (e : Nat → va_E) (S5 v v2 : Nat → UInt64), j + k = 6 → RMx cy a e k0 0 0 S5 v v2 r nw od cn bf → (∀ q, q < j → S5 q = FP.dconst0) → GW p l en ({ frames := 0, cells := 0, slots := 0, locals := 0 }) s m ([.ref (a 0), .int (nI k0)] : List Value).toArray below meth c 0 0 (MQ below (va_Qi (fun z e1 => (z = nI 1 ∧ ∃ k, 1 ≤ k ∧ k ≤ 6 ∧ nI k0 = nI k ∧ RM cy a e1 k 0 0 z1 z2 z2 r nw od cn bf) ∨ (z = nI 0 ∧ (¬ ∃ k, 1 ≤ k ∧ k ≤ 6 ∧ nI k0 = nI k) ∧ RM cy a e1 n T 0 S M E r nw od cn bf)) (gB D clP 9 a) (wA 9 a)) ([.ref (a 0), .int (nI k0)] : List Value).toArray s 0 0 (wA 9 a)) D clP 9 3 a (wA 9 a) e 30 [(0, .ref (a 0)), (1, .int (nI k0)), (2, .int (nI j))] [] := by
        intro k
        induction k with
        | zero =>
          intro j e S5 v v2 hk h hz
          obtain ⟨h0, hS, hM, hE, hr0, hnw, hod, hcn, hbf⟩ := id h
          refine g_iload_n C dX1_states_30 rfl 2 rfl ?_
          refine g_bipush (v := nI 6) C dX1_states_31 (by decide) ?_
          refine g_icmp_ge (tgt := 49) C dX1_states_33 (by decide) (fun c1 => ?_) (fun c1 => absurd c1 (fun q => q (nI_le (by omega) (by omega))))
          refine g_iconst (v := nI 0) C dX1_states_49 (by decide) ?_
          refine g_istore_n (lv' := [(0, .ref (a 0)), (1, .int (nI k0)), (2, .int (nI 0))]) C dX1_states_50 rfl (by decide) [1, 2, 0] rfl ?_
          exact L2 36 0 e S5 v v2 (by omega) h (fun q hq => hz q (by omega)) (fun q hq => absurd hq (by omega))
        | succ k ih =>
          intro j e S5 v v2 hk h hz
          obtain ⟨h0, hS, hM, hE, hr0, hnw, hod, hcn, hbf⟩ := id h
          refine g_iload_n C dX1_states_30 rfl 2 rfl ?_
          refine g_bipush (v := nI 6) C dX1_states_31 (by decide) ?_
          refine g_icmp_ge (tgt := 49) C dX1_states_33 (by decide) (fun c1 => absurd c1 (nI_ge (by omega) (by decide))) (fun c1 => ?_)
          refine g_aload_n C dX1_states_36 rfl 0 rfl ?_
          refine g_get C 3 hin inl_pos1 (by decide) h0 (by decide) f_starts rfl dX1_states_37 ?_
          refine g_iload_n C dX1_states_40 rfl 2 rfl ?_
          refine g_dconst0 C dX1_states_41 ?_
          refine g_dast C (by omega) hS (by omega) (by decide) dX1_states_42 (fun y hy => ?_)
          have h := RMx_S h hy
          generalize va_up e 1 y = e at h ⊢
          refine g_iinc (v := nI (j + 1)) (k := 2) (lv' := [(0, .ref (a 0)), (1, .int (nI k0)), (2, .int (nI (j + 1)))]) C dX1_states_43 rfl (nI_inc j) (by decide) [1, 2, 0] rfl ?_
          refine g_goto (tgt := 30) C dX1_states_46 (by decide) ?_
          exact ih (j + 1) e _ v v2 (by omega) h (fun q hq => by
            by_cases hqj : q = j
            · subst hqj; exact va_up_self _ _ _
            · rw [va_up_ne _ _ hqj]; exact hz q (by omega))
      refine g_iconst (v := nI 0) C dX1_states_28 (by decide) ?_
      refine g_istore_n (lv' := [(0, .ref (a 0)), (1, .int (nI k0)), (2, .int (nI 0))]) C dX1_states_29 rfl (by decide) [1, 2, 0] rfl ?_
      exact L1 6 0 e S _ _ (by omega) (RMx_of h) (fun q hq => absurd hq (by omega))
    · refine g_iconst (v := nI 0) C dX1_states_16 (by decide) ?_
      exact g_zret C hr hlocks (by decide) (Or.inr ⟨rfl, rng16_hi c2, h⟩) dX1_states_17

set_option maxHeartbeats 4000000 in
set_option maxRecDepth 100000 in
theorem c_X1_start (l : Launch) (D : va_G) (cy : Nat → ClassId) (a : Nat → Nat) (hi : wInj 9 a) {e : Nat → va_E} {n T th : Nat} {S : Nat → UInt64} {M E : T2} {r : Nat → Nat} {nw od : Nat → UInt64} {cn bf : Nat → Int64} (h : RM cy a e n T th S M E r nw od cn bf) (hb : n ≤ 6) (x : Int32) (w : UInt64) : Met l yX1_start wsX1_start ({ frames := 1, cells := 0, slots := 0, locals := 21 }) (gPc D clP cy 9 a e [.ref (a 0), .int x, .double w]) (va_Qi (fun z e1 => (z = nI 1 ∧ ∃ i, i < n ∧ x = nI i ∧ okW w ∧ RM cy a e1 n T 0 (va_up S i w) M E r nw od cn bf) ∨ (z = nI 0 ∧ ¬ ((∃ i, i < n ∧ x = nI i) ∧ okW w) ∧ RM cy a e1 n T 0 S M E r nw od cn bf)) (gB D clP 9 a) (wA 9 a)) 0 0 (wA 9 a) := by
  refine g_met (cc := cX1_start) (maxL := 4) (ret := (some .boolean)) (lv := [(0, .ref (a 0)), (1, .int x), (2, .double w)]) (by decide) rfl (Nat.le_of_ble_eq_true rfl) rfl hi (fun k hk => ⟨k, hk, rfl⟩) ?_
  intro p en s m below meth c C hr hlocks
  have hin : ∀ w ∈ u_ws RX1 TX1 11, w ∈ wsX1_start := by decide +kernel
  have f_thrown := C.2.2.2.2.1 (.fieldLink RX1 40 "PathOddsModel" "thrown" "I") (by decide +kernel)
  have f_starts := C.2.2.2.2.1 (.fieldLink RX1 7 "PathOddsModel" "starts" "[D") (by decide +kernel)
  obtain ⟨h0, hS, hM, hE, hr0, hnw, hod, hcn, hbf⟩ := id h
  refine g_aload_n C dX1_start_0 rfl 0 rfl ?_
  refine g_iconst (v := nI 0) C dX1_start_1 (by decide) ?_
  refine g_putE C 2 tyX1 tyX1_ok nmX1 hin inl_pos1 (by decide) h0 (by decide) f_thrown rfl (ty := .int) (by decide +kernel) rfl rfl (Nat.le_of_ble_eq_true rfl) dX1_start_2 (fun e2 he2 => ?_)
  have h : RM cy a e2 n T 0 S M E r nw od cn bf := by rw [he2]; exact RM_obj h rfl
  generalize e2 = e0 at h ⊢
  obtain ⟨h0, hS, hM, hE, hr0, hnw, hod, hcn, hbf⟩ := id h
  refine g_aload_n C dX1_start_5 rfl 0 rfl ?_
  refine g_iload_n C dX1_start_6 rfl 1 rfl ?_
  refine g_calli (As := [.int x]) (rest := []) C (cwV 1 C.2.2.2.2.1 gX1_start_X1_state rfl rfl rfl (by decide +kernel) ⟨Nat.le_of_ble_eq_true rfl, Nat.le_of_ble_eq_true rfl⟩) (c_X1_state l D cy a hi h (by omega) x) (by decide) h0 inl_pos1 rfl rfl (Nat.le_of_ble_eq_true rfl) dX1_start_7 ⟨Nat.zero_le _, Nat.zero_le _⟩ (fun z e1 hz => ?_)
  rw [hz.1]
  rcases hz.2 with ⟨rfl, i, h_i, rfl⟩ | ⟨rfl, hno⟩
  · refine g_if_eq (tgt := 20) C dX1_start_10 (by decide) (fun c1 => absurd c1 (by decide)) (fun c1 => ?_)
    refine g_dload_n C dX1_start_13 rfl 2 rfl ?_
    refine g_callSz (As := [.double w]) (rest := []) C (va_cwS 1 C.2.2.2.2.1 gX1_start_X1_unit rfl rfl rfl (by decide +kernel) ⟨Nat.le_of_ble_eq_true rfl, Nat.le_of_ble_eq_true rfl⟩) (c_X1_unit l D cy a hi h w) rfl rfl (Nat.le_of_ble_eq_true rfl) dX1_start_14 ⟨Nat.zero_le _, Nat.zero_le _⟩ (fun z e1 hz => ?_)
    rw [hz.1]
    rcases hz.2 with ⟨rfl, hok⟩ | ⟨rfl, hno⟩
    · refine g_if_ne (tgt := 22) C dX1_start_17 (by decide) (fun c1 => ?_) (fun c1 => absurd c1 (by decide))
      refine g_aload_n C dX1_start_22 rfl 0 rfl ?_
      refine g_get C 3 hin inl_pos1 (by decide) h0 (by decide) f_starts rfl dX1_start_23 ?_
      refine g_iload_n C dX1_start_26 rfl 1 rfl ?_
      refine g_dload_n C dX1_start_27 rfl 2 rfl ?_
      refine g_dast C (by omega) hS (by omega) (by decide) dX1_start_28 (fun y hy => ?_)
      have h2 := RM_S h hy
      generalize va_up e0 1 y = e2 at h2 ⊢
      refine g_iconst (v := nI 1) C dX1_start_29 (by decide) ?_
      exact g_zret C hr hlocks (by decide) (Or.inl ⟨rfl, i, h_i, rfl, hok, h2⟩) dX1_start_30
    · refine g_if_ne (tgt := 22) C dX1_start_17 (by decide) (fun c1 => absurd c1 (fun q => q (by decide))) (fun c1 => ?_)
      refine g_iconst (v := nI 0) C dX1_start_20 (by decide) ?_
      exact g_zret C hr hlocks (by decide) (Or.inr ⟨rfl, fun q => hno q.2, h⟩) dX1_start_21
  · refine g_if_eq (tgt := 20) C dX1_start_10 (by decide) (fun c1 => ?_) (fun c1 => absurd c1 (fun q => q (by decide)))
    refine g_iconst (v := nI 0) C dX1_start_20 (by decide) ?_
    exact g_zret C hr hlocks (by decide) (Or.inr ⟨rfl, fun q => hno q.1, h⟩) dX1_start_21

set_option maxHeartbeats 4000000 in
set_option maxRecDepth 100000 in
theorem c_X1_move (l : Launch) (D : va_G) (cy : Nat → ClassId) (a : Nat → Nat) (hi : wInj 9 a) {e : Nat → va_E} {n T th : Nat} {S : Nat → UInt64} {M E : T2} {r : Nat → Nat} {nw od : Nat → UInt64} {cn bf : Nat → Int64} (h : RM cy a e n T th S M E r nw od cn bf) (hb : n ≤ 6) (x x2 : Int32) (w : UInt64) : Met l yX1_move wsX1_move ({ frames := 1, cells := 0, slots := 0, locals := 21 }) (gPc D clP cy 9 a e [.ref (a 0), .int x, .int x2, .double w]) (va_Qi (fun z e1 => (z = nI 1 ∧ ∃ i j, i < n ∧ j < n ∧ x = nI i ∧ x2 = nI j ∧ okW w ∧ RM cy a e1 n T 0 S (va_up M i (va_up (M i) j w)) E r nw od cn bf) ∨ (z = nI 0 ∧ ¬ ((∃ i, i < n ∧ x = nI i) ∧ (∃ j, j < n ∧ x2 = nI j) ∧ okW w) ∧ RM cy a e1 n T 0 S M E r nw od cn bf)) (gB D clP 9 a) (wA 9 a)) 0 0 (wA 9 a) := by
  refine g_met (cc := cX1_move) (maxL := 5) (ret := (some .boolean)) (lv := [(0, .ref (a 0)), (1, .int x), (2, .int x2), (3, .double w)]) (by decide) rfl (Nat.le_of_ble_eq_true rfl) rfl hi (fun k hk => ⟨k, hk, rfl⟩) ?_
  intro p en s m below meth c C hr hlocks
  have hin : ∀ w ∈ u_ws RX1 TX1 11, w ∈ wsX1_move := by decide +kernel
  have f_thrown := C.2.2.2.2.1 (.fieldLink RX1 40 "PathOddsModel" "thrown" "I") (by decide +kernel)
  have f_moves := C.2.2.2.2.1 (.fieldLink RX1 13 "PathOddsModel" "moves" "[D") (by decide +kernel)
  obtain ⟨h0, hS, hM, hE, hr0, hnw, hod, hcn, hbf⟩ := id h
  refine g_aload_n C dX1_move_0 rfl 0 rfl ?_
  refine g_iconst (v := nI 0) C dX1_move_1 (by decide) ?_
  refine g_putE C 2 tyX1 tyX1_ok nmX1 hin inl_pos1 (by decide) h0 (by decide) f_thrown rfl (ty := .int) (by decide +kernel) rfl rfl (Nat.le_of_ble_eq_true rfl) dX1_move_2 (fun e2 he2 => ?_)
  have h : RM cy a e2 n T 0 S M E r nw od cn bf := by rw [he2]; exact RM_obj h rfl
  generalize e2 = e0 at h ⊢
  obtain ⟨h0, hS, hM, hE, hr0, hnw, hod, hcn, hbf⟩ := id h
  refine g_aload_n C dX1_move_5 rfl 0 rfl ?_
  refine g_iload_n C dX1_move_6 rfl 1 rfl ?_
  refine g_calli (As := [.int x]) (rest := []) C (cwV 1 C.2.2.2.2.1 gX1_move_X1_state rfl rfl rfl (by decide +kernel) ⟨Nat.le_of_ble_eq_true rfl, Nat.le_of_ble_eq_true rfl⟩) (c_X1_state l D cy a hi h (by omega) x) (by decide) h0 inl_pos1 rfl rfl (Nat.le_of_ble_eq_true rfl) dX1_move_7 ⟨Nat.zero_le _, Nat.zero_le _⟩ (fun z e1 hz => ?_)
  rw [hz.1]
  rcases hz.2 with ⟨rfl, i, h_i, rfl⟩ | ⟨rfl, hno⟩
  · refine g_if_eq (tgt := 28) C dX1_move_10 (by decide) (fun c1 => absurd c1 (by decide)) (fun c1 => ?_)
    refine g_aload_n C dX1_move_13 rfl 0 rfl ?_
    refine g_iload_n C dX1_move_14 rfl 2 rfl ?_
    refine g_calli (As := [.int x2]) (rest := []) C (cwV 1 C.2.2.2.2.1 gX1_move_X1_state rfl rfl rfl (by decide +kernel) ⟨Nat.le_of_ble_eq_true rfl, Nat.le_of_ble_eq_true rfl⟩) (c_X1_state l D cy a hi h (by omega) x2) (by decide) h0 inl_pos1 rfl rfl (Nat.le_of_ble_eq_true rfl) dX1_move_15 ⟨Nat.zero_le _, Nat.zero_le _⟩ (fun z e1 hz => ?_)
    rw [hz.1]
    rcases hz.2 with ⟨rfl, j, h_j, rfl⟩ | ⟨rfl, hno⟩
    · refine g_if_eq (tgt := 28) C dX1_move_18 (by decide) (fun c1 => absurd c1 (by decide)) (fun c1 => ?_)
      refine g_dload_n C dX1_move_21 rfl 3 rfl ?_
      refine g_callSz (As := [.double w]) (rest := []) C (va_cwS 1 C.2.2.2.2.1 gX1_move_X1_unit rfl rfl rfl (by decide +kernel) ⟨Nat.le_of_ble_eq_true rfl, Nat.le_of_ble_eq_true rfl⟩) (c_X1_unit l D cy a hi h w) rfl rfl (Nat.le_of_ble_eq_true rfl) dX1_move_22 ⟨Nat.zero_le _, Nat.zero_le _⟩ (fun z e1 hz => ?_)
      rw [hz.1]
      rcases hz.2 with ⟨rfl, hok⟩ | ⟨rfl, hno⟩
      · refine g_if_ne (tgt := 30) C dX1_move_25 (by decide) (fun c1 => ?_) (fun c1 => absurd c1 (by decide))
        refine g_aload_n C dX1_move_30 rfl 0 rfl ?_
        refine g_get C 4 hin inl_pos1 (by decide) h0 (by decide) f_moves rfl dX1_move_31 ?_
        refine g_bipush (v := nI 6) C dX1_move_34 (by decide) ?_
        refine g_iload_n C dX1_move_36 rfl 1 rfl ?_
        refine g_imul (v := nI (6 * i)) C dX1_move_37 (pk_mul 6 i) ?_
        refine g_iload_n C dX1_move_38 rfl 2 rfl ?_
        refine g_iadd (v := nI ((6 * i) + j)) C dX1_move_39 (nI_add (6 * i) j) ?_
        refine g_dload_n C dX1_move_40 rfl 3 rfl ?_
        refine g_dast2 (i := i) (j := j) C (by omega) hM (by omega) (by omega) (by decide) dX1_move_41 (fun y hy => ?_)
        have h2 := RM_M (M' := va_up M i (va_up (M i) j w)) h hy
        generalize va_up e0 2 y = e2 at h2 ⊢
        refine g_iconst (v := nI 1) C dX1_move_42 (by decide) ?_
        exact g_zret C hr hlocks (by decide) (Or.inl ⟨rfl, i, j, h_i, h_j, rfl, rfl, hok, h2⟩) dX1_move_43
      · refine g_if_ne (tgt := 30) C dX1_move_25 (by decide) (fun c1 => absurd c1 (fun q => q (by decide))) (fun c1 => ?_)
        refine g_iconst (v := nI 0) C dX1_move_28 (by decide) ?_
        exact g_zret C hr hlocks (by decide) (Or.inr ⟨rfl, fun q => hno q.2.2, h⟩) dX1_move_29
    · refine g_if_eq (tgt := 28) C dX1_move_18 (by decide) (fun c1 => ?_) (fun c1 => absurd c1 (fun q => q (by decide)))
      refine g_iconst (v := nI 0) C dX1_move_28 (by decide) ?_
      exact g_zret C hr hlocks (by decide) (Or.inr ⟨rfl, fun q => hno q.2.1, h⟩) dX1_move_29
  · refine g_if_eq (tgt := 28) C dX1_move_10 (by decide) (fun c1 => ?_) (fun c1 => absurd c1 (fun q => q (by decide)))
    refine g_iconst (v := nI 0) C dX1_move_28 (by decide) ?_
    exact g_zret C hr hlocks (by decide) (Or.inr ⟨rfl, fun q => hno q.1, h⟩) dX1_move_29

set_option maxHeartbeats 4000000 in
set_option maxRecDepth 100000 in
theorem c_X1_show (l : Launch) (D : va_G) (cy : Nat → ClassId) (a : Nat → Nat) (hi : wInj 9 a) {e : Nat → va_E} {n T th : Nat} {S : Nat → UInt64} {M E : T2} {r : Nat → Nat} {nw od : Nat → UInt64} {cn bf : Nat → Int64} (h : RM cy a e n T th S M E r nw od cn bf) (hb : n ≤ 6) (x x2 : Int32) (w : UInt64) : Met l yX1_show wsX1_show ({ frames := 1, cells := 0, slots := 0, locals := 21 }) (gPc D clP cy 9 a e [.ref (a 0), .int x, .int x2, .double w]) (va_Qi (fun z e1 => (z = nI 1 ∧ ∃ i j, i < n ∧ j < 4 ∧ x = nI i ∧ x2 = nI j ∧ okW w ∧ RM cy a e1 n T 0 S M (va_up E i (va_up (E i) j w)) r nw od cn bf) ∨ (z = nI 0 ∧ ¬ ((∃ i, i < n ∧ x = nI i) ∧ (∃ j, j < 4 ∧ x2 = nI j) ∧ okW w) ∧ RM cy a e1 n T 0 S M E r nw od cn bf)) (gB D clP 9 a) (wA 9 a)) 0 0 (wA 9 a) := by
  refine g_met (cc := cX1_show) (maxL := 5) (ret := (some .boolean)) (lv := [(0, .ref (a 0)), (1, .int x), (2, .int x2), (3, .double w)]) (by decide) rfl (Nat.le_of_ble_eq_true rfl) rfl hi (fun k hk => ⟨k, hk, rfl⟩) ?_
  intro p en s m below meth c C hr hlocks
  have hin : ∀ w ∈ u_ws RX1 TX1 11, w ∈ wsX1_show := by decide +kernel
  have f_thrown := C.2.2.2.2.1 (.fieldLink RX1 40 "PathOddsModel" "thrown" "I") (by decide +kernel)
  have f_shows := C.2.2.2.2.1 (.fieldLink RX1 16 "PathOddsModel" "shows" "[D") (by decide +kernel)
  obtain ⟨h0, hS, hM, hE, hr0, hnw, hod, hcn, hbf⟩ := id h
  refine g_aload_n C dX1_show_0 rfl 0 rfl ?_
  refine g_iconst (v := nI 0) C dX1_show_1 (by decide) ?_
  refine g_putE C 2 tyX1 tyX1_ok nmX1 hin inl_pos1 (by decide) h0 (by decide) f_thrown rfl (ty := .int) (by decide +kernel) rfl rfl (Nat.le_of_ble_eq_true rfl) dX1_show_2 (fun e2 he2 => ?_)
  have h : RM cy a e2 n T 0 S M E r nw od cn bf := by rw [he2]; exact RM_obj h rfl
  generalize e2 = e0 at h ⊢
  obtain ⟨h0, hS, hM, hE, hr0, hnw, hod, hcn, hbf⟩ := id h
  refine g_aload_n C dX1_show_5 rfl 0 rfl ?_
  refine g_iload_n C dX1_show_6 rfl 1 rfl ?_
  refine g_calli (As := [.int x]) (rest := []) C (cwV 1 C.2.2.2.2.1 gX1_show_X1_state rfl rfl rfl (by decide +kernel) ⟨Nat.le_of_ble_eq_true rfl, Nat.le_of_ble_eq_true rfl⟩) (c_X1_state l D cy a hi h (by omega) x) (by decide) h0 inl_pos1 rfl rfl (Nat.le_of_ble_eq_true rfl) dX1_show_7 ⟨Nat.zero_le _, Nat.zero_le _⟩ (fun z e1 hz => ?_)
  rw [hz.1]
  rcases hz.2 with ⟨rfl, i, h_i, rfl⟩ | ⟨rfl, hno⟩
  · refine g_if_eq (tgt := 27) C dX1_show_10 (by decide) (fun c1 => absurd c1 (by decide)) (fun c1 => ?_)
    refine g_iload_n C dX1_show_13 rfl 2 rfl ?_
    refine g_callSz (As := [.int x2]) (rest := []) C (va_cwS 1 C.2.2.2.2.1 gX1_show_X1_symbol rfl rfl rfl (by decide +kernel) ⟨Nat.le_of_ble_eq_true rfl, Nat.le_of_ble_eq_true rfl⟩) (c_X1_symbol l D cy a hi h x2) rfl rfl (Nat.le_of_ble_eq_true rfl) dX1_show_14 ⟨Nat.zero_le _, Nat.zero_le _⟩ (fun z e1 hz => ?_)
    rw [hz.1]
    rcases hz.2 with ⟨rfl, j, h_j, rfl⟩ | ⟨rfl, hno⟩
    · refine g_if_eq (tgt := 27) C dX1_show_17 (by decide) (fun c1 => absurd c1 (by decide)) (fun c1 => ?_)
      refine g_dload_n C dX1_show_20 rfl 3 rfl ?_
      refine g_callSz (As := [.double w]) (rest := []) C (va_cwS 1 C.2.2.2.2.1 gX1_show_X1_unit rfl rfl rfl (by decide +kernel) ⟨Nat.le_of_ble_eq_true rfl, Nat.le_of_ble_eq_true rfl⟩) (c_X1_unit l D cy a hi h w) rfl rfl (Nat.le_of_ble_eq_true rfl) dX1_show_21 ⟨Nat.zero_le _, Nat.zero_le _⟩ (fun z e1 hz => ?_)
      rw [hz.1]
      rcases hz.2 with ⟨rfl, hok⟩ | ⟨rfl, hno⟩
      · refine g_if_ne (tgt := 29) C dX1_show_24 (by decide) (fun c1 => ?_) (fun c1 => absurd c1 (by decide))
        refine g_aload_n C dX1_show_29 rfl 0 rfl ?_
        refine g_get C 5 hin inl_pos1 (by decide) h0 (by decide) f_shows rfl dX1_show_30 ?_
        refine g_iconst (v := nI 4) C dX1_show_33 (by decide) ?_
        refine g_iload_n C dX1_show_34 rfl 1 rfl ?_
        refine g_imul (v := nI (4 * i)) C dX1_show_35 (pk_mul 4 i) ?_
        refine g_iload_n C dX1_show_36 rfl 2 rfl ?_
        refine g_iadd (v := nI ((4 * i) + j)) C dX1_show_37 (nI_add (4 * i) j) ?_
        refine g_dload_n C dX1_show_38 rfl 3 rfl ?_
        refine g_dast2 (i := i) (j := j) C (by omega) hE (by omega) (by omega) (by decide) dX1_show_39 (fun y hy => ?_)
        have h2 := RM_E (E' := va_up E i (va_up (E i) j w)) h hy
        generalize va_up e0 3 y = e2 at h2 ⊢
        refine g_iconst (v := nI 1) C dX1_show_40 (by decide) ?_
        exact g_zret C hr hlocks (by decide) (Or.inl ⟨rfl, i, j, h_i, h_j, rfl, rfl, hok, h2⟩) dX1_show_41
      · refine g_if_ne (tgt := 29) C dX1_show_24 (by decide) (fun c1 => absurd c1 (fun q => q (by decide))) (fun c1 => ?_)
        refine g_iconst (v := nI 0) C dX1_show_27 (by decide) ?_
        exact g_zret C hr hlocks (by decide) (Or.inr ⟨rfl, fun q => hno q.2.2, h⟩) dX1_show_28
    · refine g_if_eq (tgt := 27) C dX1_show_17 (by decide) (fun c1 => ?_) (fun c1 => absurd c1 (fun q => q (by decide)))
      refine g_iconst (v := nI 0) C dX1_show_27 (by decide) ?_
      exact g_zret C hr hlocks (by decide) (Or.inr ⟨rfl, fun q => hno q.2.1, h⟩) dX1_show_28
  · refine g_if_eq (tgt := 27) C dX1_show_10 (by decide) (fun c1 => ?_) (fun c1 => absurd c1 (fun q => q (by decide)))
    refine g_iconst (v := nI 0) C dX1_show_27 (by decide) ?_
    exact g_zret C hr hlocks (by decide) (Or.inr ⟨rfl, fun q => hno q.1, h⟩) dX1_show_28

set_option maxHeartbeats 4000000 in
set_option maxRecDepth 100000 in
theorem c_X1_read (l : Launch) (D : va_G) (cy : Nat → ClassId) (a : Nat → Nat) (hi : wInj 9 a) {e : Nat → va_E} {n T th : Nat} {S : Nat → UInt64} {M E : T2} {r : Nat → Nat} {nw od : Nat → UInt64} {cn bf : Nat → Int64} (h : RM cy a e n T th S M E r nw od cn bf) (hb : T ≤ 12) (x : Int32) : Met l yX1_read wsX1_read ({ frames := 1, cells := 0, slots := 0, locals := 20 }) (gPc D clP cy 9 a e [.ref (a 0), .int x]) (va_Qi (fun z e1 => (z = nI 1 ∧ ∃ k, k < 4 ∧ x = nI k ∧ T < 12 ∧ RM cy a e1 n (T + 1) 0 S M E (va_up r T k) nw od cn bf) ∨ (z = nI 0 ∧ ¬ ((∃ k, k < 4 ∧ x = nI k) ∧ T < 12) ∧ RM cy a e1 n T 0 S M E r nw od cn bf)) (gB D clP 9 a) (wA 9 a)) 0 0 (wA 9 a) := by
  refine g_met (cc := cX1_read) (maxL := 2) (ret := (some .boolean)) (lv := [(0, .ref (a 0)), (1, .int x)]) (by decide) rfl (Nat.le_of_ble_eq_true rfl) rfl hi (fun k hk => ⟨k, hk, rfl⟩) ?_
  intro p en s m below meth c C hr hlocks
  have hin : ∀ w ∈ u_ws RX1 TX1 11, w ∈ wsX1_read := by decide +kernel
  have f_thrown := C.2.2.2.2.1 (.fieldLink RX1 40 "PathOddsModel" "thrown" "I") (by decide +kernel)
  have f_length := C.2.2.2.2.1 (.fieldLink RX1 43 "PathOddsModel" "length" "I") (by decide +kernel)
  have f_row := C.2.2.2.2.1 (.fieldLink RX1 19 "PathOddsModel" "row" "[I") (by decide +kernel)
  obtain ⟨h0, hS, hM, hE, hr0, hnw, hod, hcn, hbf⟩ := id h
  refine g_aload_n C dX1_read_0 rfl 0 rfl ?_
  refine g_iconst (v := nI 0) C dX1_read_1 (by decide) ?_
  refine g_putE C 2 tyX1 tyX1_ok nmX1 hin inl_pos1 (by decide) h0 (by decide) f_thrown rfl (ty := .int) (by decide +kernel) rfl rfl (Nat.le_of_ble_eq_true rfl) dX1_read_2 (fun e2 he2 => ?_)
  have h : RM cy a e2 n T 0 S M E r nw od cn bf := by rw [he2]; exact RM_obj h rfl
  generalize e2 = e0 at h ⊢
  obtain ⟨h0, hS, hM, hE, hr0, hnw, hod, hcn, hbf⟩ := id h
  refine g_iload_n C dX1_read_5 rfl 1 rfl ?_
  refine g_callSz (As := [.int x]) (rest := []) C (va_cwS 1 C.2.2.2.2.1 gX1_read_X1_symbol rfl rfl rfl (by decide +kernel) ⟨Nat.le_of_ble_eq_true rfl, Nat.le_of_ble_eq_true rfl⟩) (c_X1_symbol l D cy a hi h x) rfl rfl (Nat.le_of_ble_eq_true rfl) dX1_read_6 ⟨Nat.zero_le _, Nat.zero_le _⟩ (fun z e1 hz => ?_)
  rw [hz.1]
  rcases hz.2 with ⟨rfl, k, h_k, rfl⟩ | ⟨rfl, hno⟩
  · refine g_if_eq (tgt := 21) C dX1_read_9 (by decide) (fun c1 => absurd c1 (by decide)) (fun c1 => ?_)
    refine g_aload_n C dX1_read_12 rfl 0 rfl ?_
    refine g_get C 1 hin inl_pos1 (by decide) h0 (by decide) f_length rfl dX1_read_13 ?_
    refine g_bipush (v := nI 12) C dX1_read_16 (by decide) ?_
    refine g_icmp_ne (tgt := 23) C dX1_read_18 (by decide) (fun c2 => ?_) (fun c2 => ?_)
    · have hT12 : T < 12 := Nat.lt_of_le_of_ne hb (fun q => c2 (by rw [q]))
      refine g_aload_n C dX1_read_23 rfl 0 rfl ?_
      refine g_get C 6 hin inl_pos1 (by decide) h0 (by decide) f_row rfl dX1_read_24 ?_
      refine g_aload_n C dX1_read_27 rfl 0 rfl ?_
      refine g_get C 1 hin inl_pos1 (by decide) h0 (by decide) f_length rfl dX1_read_28 ?_
      refine g_iload_n C dX1_read_31 rfl 1 rfl ?_
      refine g_iast C (by omega) hr0 (by omega) (by decide) dX1_read_32 (fun y hy => ?_)
      have h := RM_r h (row_up hy)
      generalize va_up e0 4 y = e at h ⊢
      obtain ⟨h0, hS, hM, hE, hr0, hnw, hod, hcn, hbf⟩ := id h
      refine g_aload_n C dX1_read_33 rfl 0 rfl ?_
      refine g_aload_n C dX1_read_34 rfl 0 rfl ?_
      refine g_get C 1 hin inl_pos1 (by decide) h0 (by decide) f_length rfl dX1_read_35 ?_
      refine g_iconst (v := nI 1) C dX1_read_38 (by decide) ?_
      refine g_iadd (v := nI (T + 1)) C dX1_read_39 (nI_add T 1) ?_
      refine g_putE C 1 tyX1 tyX1_ok nmX1 hin inl_pos1 (by decide) h0 (by decide) f_length rfl (ty := .int) (by decide +kernel) rfl rfl (Nat.le_of_ble_eq_true rfl) dX1_read_40 (fun e2 he2 => ?_)
      have h : RM cy a e2 n (T + 1) 0 S M E (va_up r T k) nw od cn bf := by rw [he2]; exact RM_obj h rfl
      refine g_iconst (v := nI 1) C dX1_read_43 (by decide) ?_
      exact g_zret C hr hlocks (by decide) (Or.inl ⟨rfl, k, h_k, rfl, hT12, h⟩) dX1_read_44
    · refine g_iconst (v := nI 0) C dX1_read_21 (by decide) ?_
      exact g_zret C hr hlocks (by decide) (Or.inr ⟨rfl, fun q => absurd ((nI_eq (by omega) (by decide)).mp c2) (by omega), h⟩) dX1_read_22
  · refine g_if_eq (tgt := 21) C dX1_read_9 (by decide) (fun c1 => ?_) (fun c1 => absurd c1 (fun q => q (by decide)))
    refine g_iconst (v := nI 0) C dX1_read_21 (by decide) ?_
    exact g_zret C hr hlocks (by decide) (Or.inr ⟨rfl, fun q => hno q.1, h⟩) dX1_read_22

set_option maxHeartbeats 4000000 in
set_option maxRecDepth 100000 in
theorem c_X1_unread (l : Launch) (D : va_G) (cy : Nat → ClassId) (a : Nat → Nat) (hi : wInj 9 a) {e : Nat → va_E} {n T th : Nat} {S : Nat → UInt64} {M E : T2} {r : Nat → Nat} {nw od : Nat → UInt64} {cn bf : Nat → Int64} (h : RM cy a e n T th S M E r nw od cn bf) (hb : T ≤ 12) : Met l yX1_unread wsX1_unread ({ frames := 0, cells := 0, slots := 0, locals := 0 }) (gPc D clP cy 9 a e [.ref (a 0)]) (va_Qi (fun z e1 => (z = nI 1 ∧ 0 < T ∧ RM cy a e1 n (T - 1) 0 S M E r nw od cn bf) ∨ (z = nI 0 ∧ T = 0 ∧ RM cy a e1 n T 0 S M E r nw od cn bf)) (gB D clP 9 a) (wA 9 a)) 0 0 (wA 9 a) := by
  refine g_met (cc := cX1_unread) (maxL := 1) (ret := (some .boolean)) (lv := [(0, .ref (a 0))]) (by decide) rfl (Nat.le_of_ble_eq_true rfl) rfl hi (fun k hk => ⟨k, hk, rfl⟩) ?_
  intro p en s m below meth c C hr hlocks
  have hin : ∀ w ∈ u_ws RX1 TX1 11, w ∈ wsX1_unread := by decide +kernel
  have f_thrown := C.2.2.2.2.1 (.fieldLink RX1 40 "PathOddsModel" "thrown" "I") (by decide +kernel)
  have f_length := C.2.2.2.2.1 (.fieldLink RX1 43 "PathOddsModel" "length" "I") (by decide +kernel)
  obtain ⟨h0, hS, hM, hE, hr0, hnw, hod, hcn, hbf⟩ := id h
  refine g_aload_n C dX1_unread_0 rfl 0 rfl ?_
  refine g_iconst (v := nI 0) C dX1_unread_1 (by decide) ?_
  refine g_putE C 2 tyX1 tyX1_ok nmX1 hin inl_pos1 (by decide) h0 (by decide) f_thrown rfl (ty := .int) (by decide +kernel) rfl rfl (Nat.le_of_ble_eq_true rfl) dX1_unread_2 (fun e2 he2 => ?_)
  have h : RM cy a e2 n T 0 S M E r nw od cn bf := by rw [he2]; exact RM_obj h rfl
  generalize e2 = e0 at h ⊢
  obtain ⟨h0, hS, hM, hE, hr0, hnw, hod, hcn, hbf⟩ := id h
  refine g_aload_n C dX1_unread_5 rfl 0 rfl ?_
  refine g_get C 1 hin inl_pos1 (by decide) h0 (by decide) f_length rfl dX1_unread_6 ?_
  refine g_if_ne (tgt := 14) C dX1_unread_9 (by decide) (fun c1 => ?_) (fun c1 => ?_)
  · have hT0 : 0 < T := Nat.pos_of_ne_zero (fun q => c1 (by rw [q]; rfl))
    refine g_aload_n C dX1_unread_14 rfl 0 rfl ?_
    refine g_aload_n C dX1_unread_15 rfl 0 rfl ?_
    refine g_get C 1 hin inl_pos1 (by decide) h0 (by decide) f_length rfl dX1_unread_16 ?_
    refine g_iconst (v := nI 1) C dX1_unread_19 (by decide) ?_
    refine g_isub (v := nI (T - 1)) C dX1_unread_20 (pk_sub (by omega)) ?_
    refine g_putE C 1 tyX1 tyX1_ok nmX1 hin inl_pos1 (by decide) h0 (by decide) f_length rfl (ty := .int) (by decide +kernel) rfl rfl (Nat.le_of_ble_eq_true rfl) dX1_unread_21 (fun e2 he2 => ?_)
    have h : RM cy a e2 n (T - 1) 0 S M E r nw od cn bf := by rw [he2]; exact RM_obj h rfl
    refine g_iconst (v := nI 1) C dX1_unread_24 (by decide) ?_
    exact g_zret C hr hlocks (by decide) (Or.inl ⟨rfl, hT0, h⟩) dX1_unread_25
  · refine g_iconst (v := nI 0) C dX1_unread_12 (by decide) ?_
    exact g_zret C hr hlocks (by decide) (Or.inr ⟨rfl, (nI_eq (by omega) (by decide)).mp c1, h⟩) dX1_unread_13
