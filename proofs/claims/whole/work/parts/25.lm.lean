set_option maxRecDepth 20000 in
theorem ggL_forward_X0_forward : GoodIn wsL_forward wsX0_forward := goodIn_ca (goodIn_ca (goodIn_ca (goodIn_r _ [7, 8, 9, 10, 11, 6, 12, 13, 14, 15, 16, 17, 18, 19, 20, 21, 22, 23, 24, 25, 26, 27, 28, 29, 30, 31, 32, 33, 34, 35, 36, 37, 38, 39, 40, 41, 42, 43, 44, 45, 46, 47, 48, 49] (by decide +kernel) (by decide +kernel)) (goodIn_sub (fun _ h => List.mem_cons_of_mem _ (List.mem_append_left _ (List.mem_append_left _ (List.mem_append_right _ h)))) (by decide +kernel))) (goodIn_sub (fun _ h => List.mem_cons_of_mem _ (List.mem_append_left _ (List.mem_append_right _ h))) (by decide +kernel))) (goodIn_sub (fun _ h => List.mem_cons_of_mem _ (List.mem_append_right _ h)) (by decide +kernel))
set_option maxRecDepth 20000 in
theorem gL_forward_X0_forward : GoodIn wsL_forward (wsV RL 7 RX0 yX0_forward wsX0_forward) := goodIn_app (goodIn_of _ (by decide +kernel)) ggL_forward_X0_forward

set_option maxHeartbeats 1000000 in
set_option maxRecDepth 100000 in
theorem c_L_forward (l : Launch) (hfl : l.stackTraces = false) (D : va_G) (cy : Nat → ClassId) (a sg : Nat → Nat) (hi : wInj 83 a) {e : Nat → va_E} {n T : Nat} {S : Nat → UInt64} {M E : T2} {r : Nat → Nat} {F B V : T2} {G : Nat → Nat → Int32} {Cn : Nat → Nat → Int64} (h : RP cy a e n T S M E r F B V G Cn) (hn : 1 ≤ n ∧ n ≤ 6) (hT : T ≤ 12) (hW : WB S M E) (hr4 : RW4 r) (x x2 : Int32) {v0 : Nat → UInt64} (hv0 : isD cy (e 82) 1 v0) : Met l yL_forward wsL_forward ({ frames := 8, cells := 1, slots := 6, locals := 126 }) (gPcX D clP cy 83 a sg e [.ref (a 0), .int x, .int x2, .ref (a 82)]) (va_Qi (fun z e1 => (∃ F1 B1, RP cy a e1 n T S M E r F1 B1 V G Cn) ∧ (∃ v1, isD cy (e1 82) 1 v1) ∧ ((z = nI 1 ∧ ¬ (∃ t, t < T ∧ x = nI t)) ∨ (z = nI 2 ∧ (∃ t, t < T ∧ x = nI t) ∧ ¬ (∃ i, i < n ∧ x2 = nI i)) ∨ (z = nI 0 ∧ ∃ t i, t < T ∧ i < n ∧ x = nI t ∧ x2 = nI i ∧ isD cy (e1 82) 1 (fun _ => fA n S M E r t i)))) (gB D clP 83 a) (wA 83 a)) 1 6 (wA 83 a) := by
  refine g_metW (cc := cL_forward) (maxL := 5) (ret := (some .int)) (lv := [(0, .ref (a 0)), (1, .int x), (2, .int x2), (3, .ref (a 82))]) (hh := [(0, 9, 12, 13), (0, 9, 16, 15)]) (by decide) rfl (Nat.le_of_ble_eq_true rfl) rfl hi ?_
  intro p en s m below meth c C htb hX hr hlocks
  have hw : ∀ {u : Nat → va_E} {F1 B1 : T2}, RP cy a u n T S M E r F1 B1 V G Cn → RP cy a (putS e u 0 82) n T S M E r F1 B1 V G Cn := fun h => RP_ext h (fun k hk => putS_in (off := 0) hk) (fun _ _ => rfl)
  have hv : ∀ (u : Nat → va_E), isD cy (putS e u 0 82 82) 1 v0 := fun u => by rw [putS_out (by omega)]; exact hv0
  have h0 := h.1
  refine g_aload_n C dL_forward_0 rfl 3 rfl ?_
  refine g_iconst (v := nI 0) C dL_forward_1 (by decide) ?_
  refine g_aload_n C dL_forward_2 rfl 0 rfl ?_
  refine g_iload_n C dL_forward_3 rfl 1 rfl ?_
  refine g_iload_n C dL_forward_4 rfl 2 rfl ?_
  refine g_subdX (off := 0) (n := 82) (As := [.int x, .int x2]) (rest := [.int (nI 0), .ref (a 82)]) C hX (cwV 2 C.2.2.2.2.1 gL_forward_X0_forward rfl rfl rfl (by decide +kernel) ⟨(Nat.le_of_ble_eq_true rfl), (Nat.le_of_ble_eq_true rfl)⟩) (c_X0_forward l hfl D cy a sg (fun i j h1 h2 h3 => hi i j (by omega) (by omega) h3) h hn hT hW hr4 x x2) (by decide) (by decide) h0 inl_pos0 rfl rfl (Nat.le_of_ble_eq_true rfl) dL_forward_5 ⟨(Nat.le_of_ble_eq_true rfl), (Nat.le_of_ble_eq_true rfl)⟩ (fun X ce q9 u H1 locs1 ls hpx hP1 hS1 hl1 hce hcv hcl => ?_) (fun z u hz => ?_)
  · obtain ⟨hex, hpx⟩ := hpx
    rcases hpx with ⟨rfl, hno⟩ | ⟨rfl, hpl, hno⟩
    · refine vx_catch (own := RL) (name := xI) C.2.2.2.1 [] ⟨0, 9, 12, 13⟩ _ htb (fun z hz => absurd hz List.not_mem_nil) (by decide) (by decide) (C.2.2.2.2.1 (.classLink RL 13 xI) (by decide +kernel)) (hX.words (.castable xI xI) (by decide +kernel)) hce hcv hcl ?_
      refine (show GW p l en ({ frames := 8, cells := 1, slots := 6, locals := 126 }) s m ([.ref (a 0), .int x, .int x2, .ref (a 82)] : List Value).toArray below meth c (0 + 1) (0 + 6) (MQ below (va_Qi (fun z e1 => (∃ F1 B1, RP cy a e1 n T S M E r F1 B1 V G Cn) ∧ (∃ v1, isD cy (e1 82) 1 v1) ∧ ((z = nI 1 ∧ ¬ (∃ t, t < T ∧ x = nI t)) ∨ (z = nI 2 ∧ (∃ t, t < T ∧ x = nI t) ∧ ¬ (∃ i, i < n ∧ x2 = nI i)) ∨ (z = nI 0 ∧ ∃ t i, t < T ∧ i < n ∧ x = nI t ∧ x2 = nI i ∧ isD cy (e1 82) 1 (fun _ => fA n S M E r t i)))) (gB D clP 83 a) (wA 83 a)) ([.ref (a 0), .int x, .int x2, .ref (a 82)] : List Value).toArray s 1 6 (wA 83 a)) D clP 83 5 a (wA 83 a) (putS e u 0 82) 12 [(0, .ref (a 0)), (1, .int x), (2, .int x2), (3, .ref (a 82))] [.ref q9] from ?_) H1 locs1 ls hP1 hS1 hl1
      refine g_astore (lv' := [(4, .ref q9), (0, .ref (a 0)), (1, .int x), (2, .int x2), (3, .ref (a 82))]) C dL_forward_12 (by decide) [0, 1, 2, 3, 4] rfl ?_
      refine g_iconst (v := nI 1) C dL_forward_14 (by decide) ?_
      exact g_iret C hr hlocks (⟨hex.elim (fun F1 hb => hb.elim (fun B1 h9 => ⟨F1, B1, hw h9⟩)), ⟨v0, hv u⟩, Or.inl ⟨rfl, hno⟩⟩) dL_forward_15
    · refine vx_catch (own := RL) (name := xA) C.2.2.2.1 [⟨0, 9, 12, 13⟩] ⟨0, 9, 16, 15⟩ _ htb (fun z hz => by
        rw [List.mem_singleton] at hz
        subst hz
        exact Or.inr ⟨by decide, xI, C.2.2.2.2.1 (.classLink RL 13 xI) (by decide +kernel), hX.2.2.2.2.2.2.2.1⟩) (by decide) (by decide) (C.2.2.2.2.1 (.classLink RL 15 xA) (by decide +kernel)) (hX.words (.castable xA xA) (by decide +kernel)) hce hcv hcl ?_
      refine (show GW p l en ({ frames := 8, cells := 1, slots := 6, locals := 126 }) s m ([.ref (a 0), .int x, .int x2, .ref (a 82)] : List Value).toArray below meth c (0 + 1) (0 + 6) (MQ below (va_Qi (fun z e1 => (∃ F1 B1, RP cy a e1 n T S M E r F1 B1 V G Cn) ∧ (∃ v1, isD cy (e1 82) 1 v1) ∧ ((z = nI 1 ∧ ¬ (∃ t, t < T ∧ x = nI t)) ∨ (z = nI 2 ∧ (∃ t, t < T ∧ x = nI t) ∧ ¬ (∃ i, i < n ∧ x2 = nI i)) ∨ (z = nI 0 ∧ ∃ t i, t < T ∧ i < n ∧ x = nI t ∧ x2 = nI i ∧ isD cy (e1 82) 1 (fun _ => fA n S M E r t i)))) (gB D clP 83 a) (wA 83 a)) ([.ref (a 0), .int x, .int x2, .ref (a 82)] : List Value).toArray s 1 6 (wA 83 a)) D clP 83 5 a (wA 83 a) (putS e u 0 82) 16 [(0, .ref (a 0)), (1, .int x), (2, .int x2), (3, .ref (a 82))] [.ref q9] from ?_) H1 locs1 ls hP1 hS1 hl1
      refine g_astore (lv' := [(4, .ref q9), (0, .ref (a 0)), (1, .int x), (2, .int x2), (3, .ref (a 82))]) C dL_forward_16 (by decide) [0, 1, 2, 3, 4] rfl ?_
      refine g_iconst (v := nI 2) C dL_forward_18 (by decide) ?_
      exact g_iret C hr hlocks (⟨hex.elim (fun F1 hb => hb.elim (fun B1 h9 => ⟨F1, B1, hw h9⟩)), ⟨v0, hv u⟩, Or.inr (Or.inl ⟨rfl, hpl, hno⟩)⟩) dL_forward_19
  · obtain ⟨⟨F1, B1, h9⟩, t, i, ht, hi1, hxt, hxi, hz⟩ := hz
    refine g_dast (n := 1) (i := 0) C (by decide) (hv u) (by decide) (by decide) dL_forward_8 (fun y hy => ?_)
    refine g_goto (tgt := 20) C dL_forward_9 (by decide) ?_
    refine g_iconst (v := nI 0) C dL_forward_20 (by decide) ?_
    exact g_iret C hr hlocks (⟨⟨F1, B1, RP_ext (hw h9) (fun k hk => up_ne (by omega)) (fun _ _ => rfl)⟩, ⟨_, by rw [up_eq]; exact hy⟩, Or.inr (Or.inr ⟨rfl, t, i, ht, hi1, hxt, hxi, by rw [up_eq]; exact hy.to (fun j hj => by rw [show j = 0 by omega, va_up_self, hz])⟩)⟩) dL_forward_21

set_option maxHeartbeats 1000000 in
set_option maxRecDepth 100000 in
theorem c_L_backward (l : Launch) (hfl : l.stackTraces = false) (D : va_G) (cy : Nat → ClassId) (a sg : Nat → Nat) (hi : wInj 83 a) {e : Nat → va_E} {n T : Nat} {S : Nat → UInt64} {M E : T2} {r : Nat → Nat} {F B V : T2} {G : Nat → Nat → Int32} {Cn : Nat → Nat → Int64} (h : RP cy a e n T S M E r F B V G Cn) (hn : 1 ≤ n ∧ n ≤ 6) (hT : T ≤ 12) (hW : WB S M E) (hr4 : RW4 r) (x x2 : Int32) {v0 : Nat → UInt64} (hv0 : isD cy (e 82) 1 v0) : Met l yL_backward wsL_backward ({ frames := 8, cells := 1, slots := 6, locals := 126 }) (gPcX D clP cy 83 a sg e [.ref (a 0), .int x, .int x2, .ref (a 82)]) (va_Qi (fun z e1 => (∃ F1 B1, RP cy a e1 n T S M E r F1 B1 V G Cn) ∧ (∃ v1, isD cy (e1 82) 1 v1) ∧ ((z = nI 1 ∧ ¬ (∃ t, t < T ∧ x = nI t)) ∨ (z = nI 2 ∧ (∃ t, t < T ∧ x = nI t) ∧ ¬ (∃ i, i < n ∧ x2 = nI i)) ∨ (z = nI 0 ∧ ∃ t i, t < T ∧ i < n ∧ x = nI t ∧ x2 = nI i ∧ isD cy (e1 82) 1 (fun _ => fB n M E r T (T - 1 - t) i)))) (gB D clP 83 a) (wA 83 a)) 1 6 (wA 83 a) := by
  refine g_metW (cc := cL_backward) (maxL := 5) (ret := (some .int)) (lv := [(0, .ref (a 0)), (1, .int x), (2, .int x2), (3, .ref (a 82))]) (hh := [(0, 9, 12, 13), (0, 9, 16, 15)]) (by decide) rfl (Nat.le_of_ble_eq_true rfl) rfl hi ?_
  intro p en s m below meth c C htb hX hr hlocks
  have hw : ∀ {u : Nat → va_E} {F1 B1 : T2}, RP cy a u n T S M E r F1 B1 V G Cn → RP cy a (putS e u 0 82) n T S M E r F1 B1 V G Cn := fun h => RP_ext h (fun k hk => putS_in (off := 0) hk) (fun _ _ => rfl)
  have hv : ∀ (u : Nat → va_E), isD cy (putS e u 0 82 82) 1 v0 := fun u => by rw [putS_out (by omega)]; exact hv0
  have h0 := h.1
  refine g_aload_n C dL_backward_0 rfl 3 rfl ?_
  refine g_iconst (v := nI 0) C dL_backward_1 (by decide) ?_
  refine g_aload_n C dL_backward_2 rfl 0 rfl ?_
  refine g_iload_n C dL_backward_3 rfl 1 rfl ?_
  refine g_iload_n C dL_backward_4 rfl 2 rfl ?_
  refine g_subdX (off := 0) (n := 82) (As := [.int x, .int x2]) (rest := [.int (nI 0), .ref (a 82)]) C hX (cwV 2 C.2.2.2.2.1 gL_backward_X0_backward rfl rfl rfl (by decide +kernel) ⟨(Nat.le_of_ble_eq_true rfl), (Nat.le_of_ble_eq_true rfl)⟩) (c_X0_backward l hfl D cy a sg (fun i j h1 h2 h3 => hi i j (by omega) (by omega) h3) h hn hT hW hr4 x x2) (by decide) (by decide) h0 inl_pos0 rfl rfl (Nat.le_of_ble_eq_true rfl) dL_backward_5 ⟨(Nat.le_of_ble_eq_true rfl), (Nat.le_of_ble_eq_true rfl)⟩ (fun X ce q9 u H1 locs1 ls hpx hP1 hS1 hl1 hce hcv hcl => ?_) (fun z u hz => ?_)
  · obtain ⟨hex, hpx⟩ := hpx
    rcases hpx with ⟨rfl, hno⟩ | ⟨rfl, hpl, hno⟩
    · refine vx_catch (own := RL) (name := xI) C.2.2.2.1 [] ⟨0, 9, 12, 13⟩ _ htb (fun z hz => absurd hz List.not_mem_nil) (by decide) (by decide) (C.2.2.2.2.1 (.classLink RL 13 xI) (by decide +kernel)) (hX.words (.castable xI xI) (by decide +kernel)) hce hcv hcl ?_
      refine (show GW p l en ({ frames := 8, cells := 1, slots := 6, locals := 126 }) s m ([.ref (a 0), .int x, .int x2, .ref (a 82)] : List Value).toArray below meth c (0 + 1) (0 + 6) (MQ below (va_Qi (fun z e1 => (∃ F1 B1, RP cy a e1 n T S M E r F1 B1 V G Cn) ∧ (∃ v1, isD cy (e1 82) 1 v1) ∧ ((z = nI 1 ∧ ¬ (∃ t, t < T ∧ x = nI t)) ∨ (z = nI 2 ∧ (∃ t, t < T ∧ x = nI t) ∧ ¬ (∃ i, i < n ∧ x2 = nI i)) ∨ (z = nI 0 ∧ ∃ t i, t < T ∧ i < n ∧ x = nI t ∧ x2 = nI i ∧ isD cy (e1 82) 1 (fun _ => fB n M E r T (T - 1 - t) i)))) (gB D clP 83 a) (wA 83 a)) ([.ref (a 0), .int x, .int x2, .ref (a 82)] : List Value).toArray s 1 6 (wA 83 a)) D clP 83 5 a (wA 83 a) (putS e u 0 82) 12 [(0, .ref (a 0)), (1, .int x), (2, .int x2), (3, .ref (a 82))] [.ref q9] from ?_) H1 locs1 ls hP1 hS1 hl1
      refine g_astore (lv' := [(4, .ref q9), (0, .ref (a 0)), (1, .int x), (2, .int x2), (3, .ref (a 82))]) C dL_backward_12 (by decide) [0, 1, 2, 3, 4] rfl ?_
      refine g_iconst (v := nI 1) C dL_backward_14 (by decide) ?_
      exact g_iret C hr hlocks (⟨hex.elim (fun F1 hb => hb.elim (fun B1 h9 => ⟨F1, B1, hw h9⟩)), ⟨v0, hv u⟩, Or.inl ⟨rfl, hno⟩⟩) dL_backward_15
    · refine vx_catch (own := RL) (name := xA) C.2.2.2.1 [⟨0, 9, 12, 13⟩] ⟨0, 9, 16, 15⟩ _ htb (fun z hz => by
        rw [List.mem_singleton] at hz
        subst hz
        exact Or.inr ⟨by decide, xI, C.2.2.2.2.1 (.classLink RL 13 xI) (by decide +kernel), hX.2.2.2.2.2.2.2.1⟩) (by decide) (by decide) (C.2.2.2.2.1 (.classLink RL 15 xA) (by decide +kernel)) (hX.words (.castable xA xA) (by decide +kernel)) hce hcv hcl ?_
      refine (show GW p l en ({ frames := 8, cells := 1, slots := 6, locals := 126 }) s m ([.ref (a 0), .int x, .int x2, .ref (a 82)] : List Value).toArray below meth c (0 + 1) (0 + 6) (MQ below (va_Qi (fun z e1 => (∃ F1 B1, RP cy a e1 n T S M E r F1 B1 V G Cn) ∧ (∃ v1, isD cy (e1 82) 1 v1) ∧ ((z = nI 1 ∧ ¬ (∃ t, t < T ∧ x = nI t)) ∨ (z = nI 2 ∧ (∃ t, t < T ∧ x = nI t) ∧ ¬ (∃ i, i < n ∧ x2 = nI i)) ∨ (z = nI 0 ∧ ∃ t i, t < T ∧ i < n ∧ x = nI t ∧ x2 = nI i ∧ isD cy (e1 82) 1 (fun _ => fB n M E r T (T - 1 - t) i)))) (gB D clP 83 a) (wA 83 a)) ([.ref (a 0), .int x, .int x2, .ref (a 82)] : List Value).toArray s 1 6 (wA 83 a)) D clP 83 5 a (wA 83 a) (putS e u 0 82) 16 [(0, .ref (a 0)), (1, .int x), (2, .int x2), (3, .ref (a 82))] [.ref q9] from ?_) H1 locs1 ls hP1 hS1 hl1
      refine g_astore (lv' := [(4, .ref q9), (0, .ref (a 0)), (1, .int x), (2, .int x2), (3, .ref (a 82))]) C dL_backward_16 (by decide) [0, 1, 2, 3, 4] rfl ?_
      refine g_iconst (v := nI 2) C dL_backward_18 (by decide) ?_
      exact g_iret C hr hlocks (⟨hex.elim (fun F1 hb => hb.elim (fun B1 h9 => ⟨F1, B1, hw h9⟩)), ⟨v0, hv u⟩, Or.inr (Or.inl ⟨rfl, hpl, hno⟩)⟩) dL_backward_19
  · obtain ⟨⟨F1, B1, h9⟩, t, i, ht, hi1, hxt, hxi, hz⟩ := hz
    refine g_dast (n := 1) (i := 0) C (by decide) (hv u) (by decide) (by decide) dL_backward_8 (fun y hy => ?_)
    refine g_goto (tgt := 20) C dL_backward_9 (by decide) ?_
    refine g_iconst (v := nI 0) C dL_backward_20 (by decide) ?_
    exact g_iret C hr hlocks (⟨⟨F1, B1, RP_ext (hw h9) (fun k hk => up_ne (by omega)) (fun _ _ => rfl)⟩, ⟨_, by rw [up_eq]; exact hy⟩, Or.inr (Or.inr ⟨rfl, t, i, ht, hi1, hxt, hxi, by rw [up_eq]; exact hy.to (fun j hj => by rw [show j = 0 by omega, va_up_self, hz])⟩)⟩) dL_backward_21

set_option maxHeartbeats 1000000 in
set_option maxRecDepth 100000 in
theorem c_L_share (l : Launch) (hfl : l.stackTraces = false) (D : va_G) (cy : Nat → ClassId) (a sg : Nat → Nat) (hi : wInj 83 a) {e : Nat → va_E} {n T : Nat} {S : Nat → UInt64} {M E : T2} {r : Nat → Nat} {F B V : T2} {G : Nat → Nat → Int32} {Cn : Nat → Nat → Int64} (h : RP cy a e n T S M E r F B V G Cn) (hn : 1 ≤ n ∧ n ≤ 6) (hT : T ≤ 12) (hW : WB S M E) (hr4 : RW4 r) (x x2 : Int32) {v0 : Nat → UInt64} (hv0 : isD cy (e 82) 1 v0) : Met l yL_share wsL_share ({ frames := 8, cells := 2, slots := 12, locals := 128 }) (gPcX D clP cy 83 a sg e [.ref (a 0), .int x, .int x2, .ref (a 82)]) (va_Qi (fun z e1 => (∃ F1 B1, RP cy a e1 n T S M E r F1 B1 V G Cn) ∧ (∃ v1, isD cy (e1 82) 1 v1) ∧ ((z = nI 1 ∧ ¬ (∃ t, t < T ∧ x = nI t)) ∨ (z = nI 2 ∧ (∃ t, t < T ∧ x = nI t) ∧ ¬ (∃ i, i < n ∧ x2 = nI i)) ∨ (z = nI 3 ∧ (∃ t, t < T ∧ x = nI t) ∧ (∃ i, i < n ∧ x2 = nI i) ∧ Op.cmpValue (FP.dcmp (fTot n S M E r T) FP.dconst0) CmpOp.l = 0) ∨ (z = nI 0 ∧ ¬ Op.cmpValue (FP.dcmp (fTot n S M E r T) FP.dconst0) CmpOp.l = 0 ∧ ∃ t i, t < T ∧ i < n ∧ x = nI t ∧ x2 = nI i ∧ isD cy (e1 82) 1 (fun _ => FP.ddiv (FP.dmul (fA n S M E r t i) (fB n M E r T (T - 1 - t) i)) (fTot n S M E r T))))) (gB D clP 83 a) (wA 83 a)) 2 12 (wA 83 a) := by
  refine g_metW (cc := cL_share) (maxL := 5) (ret := (some .int)) (lv := [(0, .ref (a 0)), (1, .int x), (2, .int x2), (3, .ref (a 82))]) (hh := [(0, 9, 12, 13), (0, 9, 16, 15), (0, 9, 20, 23)]) (by decide) rfl (Nat.le_of_ble_eq_true rfl) rfl hi ?_
  intro p en s m below meth c C htb hX hr hlocks
  have hw : ∀ {u : Nat → va_E} {F1 B1 : T2}, RP cy a u n T S M E r F1 B1 V G Cn → RP cy a (putS e u 0 82) n T S M E r F1 B1 V G Cn := fun h => RP_ext h (fun k hk => putS_in (off := 0) hk) (fun _ _ => rfl)
  have hv : ∀ (u : Nat → va_E), isD cy (putS e u 0 82 82) 1 v0 := fun u => by rw [putS_out (by omega)]; exact hv0
  have h0 := h.1
  refine g_aload_n C dL_share_0 rfl 3 rfl ?_
  refine g_iconst (v := nI 0) C dL_share_1 (by decide) ?_
  refine g_aload_n C dL_share_2 rfl 0 rfl ?_
  refine g_iload_n C dL_share_3 rfl 1 rfl ?_
  refine g_iload_n C dL_share_4 rfl 2 rfl ?_
  refine g_subdX (off := 0) (n := 82) (As := [.int x, .int x2]) (rest := [.int (nI 0), .ref (a 82)]) C hX (cwV 2 C.2.2.2.2.1 gL_share_X0_share rfl rfl rfl (by decide +kernel) ⟨(Nat.le_of_ble_eq_true rfl), (Nat.le_of_ble_eq_true rfl)⟩) (c_X0_share l hfl D cy a sg (fun i j h1 h2 h3 => hi i j (by omega) (by omega) h3) h hn hT hW hr4 x x2) (by decide) (by decide) h0 inl_pos0 rfl rfl (Nat.le_of_ble_eq_true rfl) dL_share_5 ⟨(Nat.le_of_ble_eq_true rfl), (Nat.le_of_ble_eq_true rfl)⟩ (fun X ce q9 u H1 locs1 ls hpx hP1 hS1 hl1 hce hcv hcl => ?_) (fun z u hz => ?_)
  · obtain ⟨hex, hpx⟩ := hpx
    rcases hpx with ⟨rfl, hno⟩ | ⟨rfl, hpl, hno⟩ | ⟨rfl, hpl, hst, hcz⟩
    · refine vx_catch (own := RL) (name := xI) C.2.2.2.1 [] ⟨0, 9, 12, 13⟩ _ htb (fun z hz => absurd hz List.not_mem_nil) (by decide) (by decide) (C.2.2.2.2.1 (.classLink RL 13 xI) (by decide +kernel)) (hX.words (.castable xI xI) (by decide +kernel)) hce hcv hcl ?_
      refine (show GW p l en ({ frames := 8, cells := 2, slots := 12, locals := 128 }) s m ([.ref (a 0), .int x, .int x2, .ref (a 82)] : List Value).toArray below meth c (0 + 2) (0 + 12) (MQ below (va_Qi (fun z e1 => (∃ F1 B1, RP cy a e1 n T S M E r F1 B1 V G Cn) ∧ (∃ v1, isD cy (e1 82) 1 v1) ∧ ((z = nI 1 ∧ ¬ (∃ t, t < T ∧ x = nI t)) ∨ (z = nI 2 ∧ (∃ t, t < T ∧ x = nI t) ∧ ¬ (∃ i, i < n ∧ x2 = nI i)) ∨ (z = nI 3 ∧ (∃ t, t < T ∧ x = nI t) ∧ (∃ i, i < n ∧ x2 = nI i) ∧ Op.cmpValue (FP.dcmp (fTot n S M E r T) FP.dconst0) CmpOp.l = 0) ∨ (z = nI 0 ∧ ¬ Op.cmpValue (FP.dcmp (fTot n S M E r T) FP.dconst0) CmpOp.l = 0 ∧ ∃ t i, t < T ∧ i < n ∧ x = nI t ∧ x2 = nI i ∧ isD cy (e1 82) 1 (fun _ => FP.ddiv (FP.dmul (fA n S M E r t i) (fB n M E r T (T - 1 - t) i)) (fTot n S M E r T))))) (gB D clP 83 a) (wA 83 a)) ([.ref (a 0), .int x, .int x2, .ref (a 82)] : List Value).toArray s 2 12 (wA 83 a)) D clP 83 5 a (wA 83 a) (putS e u 0 82) 12 [(0, .ref (a 0)), (1, .int x), (2, .int x2), (3, .ref (a 82))] [.ref q9] from ?_) H1 locs1 ls hP1 hS1 hl1
      refine g_astore (lv' := [(4, .ref q9), (0, .ref (a 0)), (1, .int x), (2, .int x2), (3, .ref (a 82))]) C dL_share_12 (by decide) [0, 1, 2, 3, 4] rfl ?_
      refine g_iconst (v := nI 1) C dL_share_14 (by decide) ?_
      exact g_iret C hr hlocks (⟨hex.elim (fun F1 hb => hb.elim (fun B1 h9 => ⟨F1, B1, hw h9⟩)), ⟨v0, hv u⟩, Or.inl ⟨rfl, hno⟩⟩) dL_share_15
    · refine vx_catch (own := RL) (name := xA) C.2.2.2.1 [⟨0, 9, 12, 13⟩] ⟨0, 9, 16, 15⟩ _ htb (fun z hz => by
        rw [List.mem_singleton] at hz
        subst hz
        exact Or.inr ⟨by decide, xI, C.2.2.2.2.1 (.classLink RL 13 xI) (by decide +kernel), hX.2.2.2.2.2.2.2.1⟩) (by decide) (by decide) (C.2.2.2.2.1 (.classLink RL 15 xA) (by decide +kernel)) (hX.words (.castable xA xA) (by decide +kernel)) hce hcv hcl ?_
      refine (show GW p l en ({ frames := 8, cells := 2, slots := 12, locals := 128 }) s m ([.ref (a 0), .int x, .int x2, .ref (a 82)] : List Value).toArray below meth c (0 + 2) (0 + 12) (MQ below (va_Qi (fun z e1 => (∃ F1 B1, RP cy a e1 n T S M E r F1 B1 V G Cn) ∧ (∃ v1, isD cy (e1 82) 1 v1) ∧ ((z = nI 1 ∧ ¬ (∃ t, t < T ∧ x = nI t)) ∨ (z = nI 2 ∧ (∃ t, t < T ∧ x = nI t) ∧ ¬ (∃ i, i < n ∧ x2 = nI i)) ∨ (z = nI 3 ∧ (∃ t, t < T ∧ x = nI t) ∧ (∃ i, i < n ∧ x2 = nI i) ∧ Op.cmpValue (FP.dcmp (fTot n S M E r T) FP.dconst0) CmpOp.l = 0) ∨ (z = nI 0 ∧ ¬ Op.cmpValue (FP.dcmp (fTot n S M E r T) FP.dconst0) CmpOp.l = 0 ∧ ∃ t i, t < T ∧ i < n ∧ x = nI t ∧ x2 = nI i ∧ isD cy (e1 82) 1 (fun _ => FP.ddiv (FP.dmul (fA n S M E r t i) (fB n M E r T (T - 1 - t) i)) (fTot n S M E r T))))) (gB D clP 83 a) (wA 83 a)) ([.ref (a 0), .int x, .int x2, .ref (a 82)] : List Value).toArray s 2 12 (wA 83 a)) D clP 83 5 a (wA 83 a) (putS e u 0 82) 16 [(0, .ref (a 0)), (1, .int x), (2, .int x2), (3, .ref (a 82))] [.ref q9] from ?_) H1 locs1 ls hP1 hS1 hl1
      refine g_astore (lv' := [(4, .ref q9), (0, .ref (a 0)), (1, .int x), (2, .int x2), (3, .ref (a 82))]) C dL_share_16 (by decide) [0, 1, 2, 3, 4] rfl ?_
      refine g_iconst (v := nI 2) C dL_share_18 (by decide) ?_
      exact g_iret C hr hlocks (⟨hex.elim (fun F1 hb => hb.elim (fun B1 h9 => ⟨F1, B1, hw h9⟩)), ⟨v0, hv u⟩, Or.inr (Or.inl ⟨rfl, hpl, hno⟩)⟩) dL_share_19
    · refine vx_catch (own := RL) (name := xR) C.2.2.2.1 [⟨0, 9, 12, 13⟩, ⟨0, 9, 16, 15⟩] ⟨0, 9, 20, 23⟩ _ htb (fun z hz => by
        rcases List.mem_cons.mp hz with hz | hz
        · subst hz
          exact Or.inr ⟨by decide, xI, C.2.2.2.2.1 (.classLink RL 13 xI) (by decide +kernel), hX.2.2.2.2.2.2.2.2.1⟩
        · rw [List.mem_singleton] at hz
          subst hz
          exact Or.inr ⟨by decide, xA, C.2.2.2.2.1 (.classLink RL 15 xA) (by decide +kernel), hX.2.2.2.2.2.2.2.2.2⟩) (by decide) (by decide) (C.2.2.2.2.1 (.classLink RL 23 xR) (by decide +kernel)) (hX.words (.castable xR xR) (by decide +kernel)) hce hcv hcl ?_
      refine (show GW p l en ({ frames := 8, cells := 2, slots := 12, locals := 128 }) s m ([.ref (a 0), .int x, .int x2, .ref (a 82)] : List Value).toArray below meth c (0 + 2) (0 + 12) (MQ below (va_Qi (fun z e1 => (∃ F1 B1, RP cy a e1 n T S M E r F1 B1 V G Cn) ∧ (∃ v1, isD cy (e1 82) 1 v1) ∧ ((z = nI 1 ∧ ¬ (∃ t, t < T ∧ x = nI t)) ∨ (z = nI 2 ∧ (∃ t, t < T ∧ x = nI t) ∧ ¬ (∃ i, i < n ∧ x2 = nI i)) ∨ (z = nI 3 ∧ (∃ t, t < T ∧ x = nI t) ∧ (∃ i, i < n ∧ x2 = nI i) ∧ Op.cmpValue (FP.dcmp (fTot n S M E r T) FP.dconst0) CmpOp.l = 0) ∨ (z = nI 0 ∧ ¬ Op.cmpValue (FP.dcmp (fTot n S M E r T) FP.dconst0) CmpOp.l = 0 ∧ ∃ t i, t < T ∧ i < n ∧ x = nI t ∧ x2 = nI i ∧ isD cy (e1 82) 1 (fun _ => FP.ddiv (FP.dmul (fA n S M E r t i) (fB n M E r T (T - 1 - t) i)) (fTot n S M E r T))))) (gB D clP 83 a) (wA 83 a)) ([.ref (a 0), .int x, .int x2, .ref (a 82)] : List Value).toArray s 2 12 (wA 83 a)) D clP 83 5 a (wA 83 a) (putS e u 0 82) 20 [(0, .ref (a 0)), (1, .int x), (2, .int x2), (3, .ref (a 82))] [.ref q9] from ?_) H1 locs1 ls hP1 hS1 hl1
      refine g_astore (lv' := [(4, .ref q9), (0, .ref (a 0)), (1, .int x), (2, .int x2), (3, .ref (a 82))]) C dL_share_20 (by decide) [0, 1, 2, 3, 4] rfl ?_
      refine g_iconst (v := nI 3) C dL_share_22 (by decide) ?_
      exact g_iret C hr hlocks (⟨hex.elim (fun F1 hb => hb.elim (fun B1 h9 => ⟨F1, B1, hw h9⟩)), ⟨v0, hv u⟩, Or.inr (Or.inr (Or.inl ⟨rfl, hpl, hst, hcz⟩))⟩) dL_share_23
  · obtain ⟨⟨F1, B1, h9⟩, hcz, t, i, ht, hi1, hxt, hxi, hz⟩ := hz
    refine g_dast (n := 1) (i := 0) C (by decide) (hv u) (by decide) (by decide) dL_share_8 (fun y hy => ?_)
    refine g_goto (tgt := 24) C dL_share_9 (by decide) ?_
    refine g_iconst (v := nI 0) C dL_share_24 (by decide) ?_
    exact g_iret C hr hlocks (⟨⟨F1, B1, RP_ext (hw h9) (fun k hk => up_ne (by omega)) (fun _ _ => rfl)⟩, ⟨_, by rw [up_eq]; exact hy⟩, Or.inr (Or.inr (Or.inr ⟨rfl, hcz, t, i, ht, hi1, hxt, hxi, by rw [up_eq]; exact hy.to (fun j hj => by rw [show j = 0 by omega, va_up_self, hz])⟩))⟩) dL_share_25
