/-! what a state of the class is, and of the reference: cells by places -/
abbrev clP : List vw_C := [(RX0, TX0, 11), (RX1, TX1, 11)]
abbrev T2 : Type := Nat → Nat → UInt64
def RP (cy : Nat → ClassId) (a : Nat → Nat) (e : Nat → va_E) (n T : Nat) (S : Nat → UInt64) (M E : T2) (r : Nat → Nat) (F B V : T2) (G : Nat → Nat → Int32) (Cn : Nat → Nat → Int64) : Prop :=
  e 0 = .inr (0, [.ref (a 1), .ref (a 2), .ref (a 9), .ref (a 16), .int (nI n), .int (nI T), .ref (a 17), .ref (a 30), .ref (a 43), .ref (a 56), .ref (a 69)]) ∧ isD cy (e 1) 6 S ∧ e 2 = rA cy 3 6 a 3 ∧ e 9 = rA cy 3 6 a 10 ∧ isI cy (e 16) 12 (fun t => nI (r t)) ∧ e 17 = rA cy 3 12 a 18 ∧ e 30 = rA cy 3 12 a 31 ∧ e 43 = rA cy 3 12 a 44 ∧ e 56 = rA cy 4 12 a 57 ∧ e 69 = rA cy 5 12 a 70 ∧
  (∀ i, i < 6 → isD cy (e (3 + i)) 6 (M i)) ∧ (∀ i, i < 6 → isD cy (e (10 + i)) 4 (E i)) ∧ (∀ t, t < 12 → isD cy (e (18 + t)) 6 (F t)) ∧ (∀ t, t < 12 → isD cy (e (31 + t)) 6 (B t)) ∧ (∀ t, t < 12 → isD cy (e (44 + t)) 6 (V t)) ∧ (∀ t, t < 12 → isI cy (e (57 + t)) 6 (G t)) ∧ (∀ t, t < 12 → isL cy (e (70 + t)) 6 (Cn t))
def RM (cy : Nat → ClassId) (b : Nat → Nat) (e : Nat → va_E) (n T th : Nat) (S : Nat → UInt64) (M E : T2) (r : Nat → Nat) (nw od : Nat → UInt64) (cn bf : Nat → Int64) : Prop :=
  e 0 = .inr (1, [.int (nI n), .int (nI T), .int (nI th), .ref (b 1), .ref (b 2), .ref (b 3), .ref (b 4), .ref (b 5), .ref (b 6), .ref (b 7), .ref (b 8)]) ∧ isD cy (e 1) 6 S ∧ isD cy (e 2) 36 (fun k => M (k / 6) (k % 6)) ∧ isD cy (e 3) 24 (fun k => E (k / 4) (k % 4)) ∧ isI cy (e 4) 12 (fun t => nI (r t)) ∧ isD cy (e 5) 6 nw ∧ isD cy (e 6) 6 od ∧ isL cy (e 7) 6 cn ∧ isL cy (e 8) 6 bf
theorem up_ne {e : Nat → va_E} {k j : Nat} {x : va_E} (h : j ≠ k) : va_up e k x j = e j := va_up_ne _ _ h
theorem up_eq {e : Nat → va_E} {k : Nat} {x : va_E} : va_up e k x k = x := va_up_self _ _ _
section RPs
variable {cy : Nat → ClassId} {a : Nat → Nat} {e : Nat → va_E} {n T th : Nat} {S : Nat → UInt64} {M E : T2} {r : Nat → Nat} {F B V : T2} {G : Nat → Nat → Int32} {Cn : Nat → Nat → Int64} {nw od : Nat → UInt64} {cn bf : Nat → Int64}

theorem RP_obj (h : RP cy a e n T S M E r F B V G Cn) {n' T' : Nat} {y : va_E} (hy : y = .inr (0, [.ref (a 1), .ref (a 2), .ref (a 9), .ref (a 16), .int (nI n'), .int (nI T'), .ref (a 17), .ref (a 30), .ref (a 43), .ref (a 56), .ref (a 69)])) : RP cy a (va_up e 0 y) n' T' S M E r F B V G Cn := by
  obtain ⟨h0, hS, h2, h9, hr, h17, h30, h43, h56, h69, hM, hE, hF, hB, hV, hG, hC⟩ := h
  exact ⟨by rw [up_eq]; exact hy, by rw [up_ne (by omega)]; exact hS, by rw [up_ne (by omega)]; exact h2, by rw [up_ne (by omega)]; exact h9, by rw [up_ne (by omega)]; exact hr, by rw [up_ne (by omega)]; exact h17, by rw [up_ne (by omega)]; exact h30, by rw [up_ne (by omega)]; exact h43, by rw [up_ne (by omega)]; exact h56, by rw [up_ne (by omega)]; exact h69, fun u hu => by rw [up_ne (by omega)]; exact hM u hu, fun u hu => by rw [up_ne (by omega)]; exact hE u hu, fun u hu => by rw [up_ne (by omega)]; exact hF u hu, fun u hu => by rw [up_ne (by omega)]; exact hB u hu, fun u hu => by rw [up_ne (by omega)]; exact hV u hu, fun u hu => by rw [up_ne (by omega)]; exact hG u hu, fun u hu => by rw [up_ne (by omega)]; exact hC u hu⟩
theorem RP_S (h : RP cy a e n T S M E r F B V G Cn) {S' : Nat → UInt64} {y : va_E} (hy : isD cy y 6 S') : RP cy a (va_up e 1 y) n T S' M E r F B V G Cn := by
  obtain ⟨h0, hS, h2, h9, hr, h17, h30, h43, h56, h69, hM, hE, hF, hB, hV, hG, hC⟩ := h
  exact ⟨by rw [up_ne (by omega)]; exact h0, by rw [up_eq]; exact hy, by rw [up_ne (by omega)]; exact h2, by rw [up_ne (by omega)]; exact h9, by rw [up_ne (by omega)]; exact hr, by rw [up_ne (by omega)]; exact h17, by rw [up_ne (by omega)]; exact h30, by rw [up_ne (by omega)]; exact h43, by rw [up_ne (by omega)]; exact h56, by rw [up_ne (by omega)]; exact h69, fun u hu => by rw [up_ne (by omega)]; exact hM u hu, fun u hu => by rw [up_ne (by omega)]; exact hE u hu, fun u hu => by rw [up_ne (by omega)]; exact hF u hu, fun u hu => by rw [up_ne (by omega)]; exact hB u hu, fun u hu => by rw [up_ne (by omega)]; exact hV u hu, fun u hu => by rw [up_ne (by omega)]; exact hG u hu, fun u hu => by rw [up_ne (by omega)]; exact hC u hu⟩
theorem RP_r (h : RP cy a e n T S M E r F B V G Cn) {r' : Nat → Nat} {y : va_E} (hy : isI cy y 12 (fun t => nI (r' t))) : RP cy a (va_up e 16 y) n T S M E r' F B V G Cn := by
  obtain ⟨h0, hS, h2, h9, hr, h17, h30, h43, h56, h69, hM, hE, hF, hB, hV, hG, hC⟩ := h
  exact ⟨by rw [up_ne (by omega)]; exact h0, by rw [up_ne (by omega)]; exact hS, by rw [up_ne (by omega)]; exact h2, by rw [up_ne (by omega)]; exact h9, by rw [up_eq]; exact hy, by rw [up_ne (by omega)]; exact h17, by rw [up_ne (by omega)]; exact h30, by rw [up_ne (by omega)]; exact h43, by rw [up_ne (by omega)]; exact h56, by rw [up_ne (by omega)]; exact h69, fun u hu => by rw [up_ne (by omega)]; exact hM u hu, fun u hu => by rw [up_ne (by omega)]; exact hE u hu, fun u hu => by rw [up_ne (by omega)]; exact hF u hu, fun u hu => by rw [up_ne (by omega)]; exact hB u hu, fun u hu => by rw [up_ne (by omega)]; exact hV u hu, fun u hu => by rw [up_ne (by omega)]; exact hG u hu, fun u hu => by rw [up_ne (by omega)]; exact hC u hu⟩
theorem RP_M (h : RP cy a e n T S M E r F B V G Cn) {t : Nat} {x : Nat → UInt64} {y : va_E} (ht : t < 6) (hy : isD cy y 6 x) : RP cy a (va_up e (3 + t) y) n T S (va_up M t x) E r F B V G Cn := by
  obtain ⟨h0, hS, h2, h9, hr, h17, h30, h43, h56, h69, hM, hE, hF, hB, hV, hG, hC⟩ := h
  exact ⟨by rw [up_ne (by omega)]; exact h0, by rw [up_ne (by omega)]; exact hS, by rw [up_ne (by omega)]; exact h2, by rw [up_ne (by omega)]; exact h9, by rw [up_ne (by omega)]; exact hr, by rw [up_ne (by omega)]; exact h17, by rw [up_ne (by omega)]; exact h30, by rw [up_ne (by omega)]; exact h43, by rw [up_ne (by omega)]; exact h56, by rw [up_ne (by omega)]; exact h69, fun u hu => by
    by_cases hut : u = t
    · subst hut
      rw [up_eq, va_up_self]
      exact hy
    · rw [up_ne (by omega), va_up_ne _ _ hut]
      exact hM u hu, fun u hu => by rw [up_ne (by omega)]; exact hE u hu, fun u hu => by rw [up_ne (by omega)]; exact hF u hu, fun u hu => by rw [up_ne (by omega)]; exact hB u hu, fun u hu => by rw [up_ne (by omega)]; exact hV u hu, fun u hu => by rw [up_ne (by omega)]; exact hG u hu, fun u hu => by rw [up_ne (by omega)]; exact hC u hu⟩
theorem RP_E (h : RP cy a e n T S M E r F B V G Cn) {t : Nat} {x : Nat → UInt64} {y : va_E} (ht : t < 6) (hy : isD cy y 4 x) : RP cy a (va_up e (10 + t) y) n T S M (va_up E t x) r F B V G Cn := by
  obtain ⟨h0, hS, h2, h9, hr, h17, h30, h43, h56, h69, hM, hE, hF, hB, hV, hG, hC⟩ := h
  exact ⟨by rw [up_ne (by omega)]; exact h0, by rw [up_ne (by omega)]; exact hS, by rw [up_ne (by omega)]; exact h2, by rw [up_ne (by omega)]; exact h9, by rw [up_ne (by omega)]; exact hr, by rw [up_ne (by omega)]; exact h17, by rw [up_ne (by omega)]; exact h30, by rw [up_ne (by omega)]; exact h43, by rw [up_ne (by omega)]; exact h56, by rw [up_ne (by omega)]; exact h69, fun u hu => by rw [up_ne (by omega)]; exact hM u hu, fun u hu => by
    by_cases hut : u = t
    · subst hut
      rw [up_eq, va_up_self]
      exact hy
    · rw [up_ne (by omega), va_up_ne _ _ hut]
      exact hE u hu, fun u hu => by rw [up_ne (by omega)]; exact hF u hu, fun u hu => by rw [up_ne (by omega)]; exact hB u hu, fun u hu => by rw [up_ne (by omega)]; exact hV u hu, fun u hu => by rw [up_ne (by omega)]; exact hG u hu, fun u hu => by rw [up_ne (by omega)]; exact hC u hu⟩
theorem RP_F (h : RP cy a e n T S M E r F B V G Cn) {t : Nat} {x : Nat → UInt64} {y : va_E} (ht : t < 12) (hy : isD cy y 6 x) : RP cy a (va_up e (18 + t) y) n T S M E r (va_up F t x) B V G Cn := by
  obtain ⟨h0, hS, h2, h9, hr, h17, h30, h43, h56, h69, hM, hE, hF, hB, hV, hG, hC⟩ := h
  exact ⟨by rw [up_ne (by omega)]; exact h0, by rw [up_ne (by omega)]; exact hS, by rw [up_ne (by omega)]; exact h2, by rw [up_ne (by omega)]; exact h9, by rw [up_ne (by omega)]; exact hr, by rw [up_ne (by omega)]; exact h17, by rw [up_ne (by omega)]; exact h30, by rw [up_ne (by omega)]; exact h43, by rw [up_ne (by omega)]; exact h56, by rw [up_ne (by omega)]; exact h69, fun u hu => by rw [up_ne (by omega)]; exact hM u hu, fun u hu => by rw [up_ne (by omega)]; exact hE u hu, fun u hu => by
    by_cases hut : u = t
    · subst hut
      rw [up_eq, va_up_self]
      exact hy
    · rw [up_ne (by omega), va_up_ne _ _ hut]
      exact hF u hu, fun u hu => by rw [up_ne (by omega)]; exact hB u hu, fun u hu => by rw [up_ne (by omega)]; exact hV u hu, fun u hu => by rw [up_ne (by omega)]; exact hG u hu, fun u hu => by rw [up_ne (by omega)]; exact hC u hu⟩
theorem RP_B (h : RP cy a e n T S M E r F B V G Cn) {t : Nat} {x : Nat → UInt64} {y : va_E} (ht : t < 12) (hy : isD cy y 6 x) : RP cy a (va_up e (31 + t) y) n T S M E r F (va_up B t x) V G Cn := by
  obtain ⟨h0, hS, h2, h9, hr, h17, h30, h43, h56, h69, hM, hE, hF, hB, hV, hG, hC⟩ := h
  exact ⟨by rw [up_ne (by omega)]; exact h0, by rw [up_ne (by omega)]; exact hS, by rw [up_ne (by omega)]; exact h2, by rw [up_ne (by omega)]; exact h9, by rw [up_ne (by omega)]; exact hr, by rw [up_ne (by omega)]; exact h17, by rw [up_ne (by omega)]; exact h30, by rw [up_ne (by omega)]; exact h43, by rw [up_ne (by omega)]; exact h56, by rw [up_ne (by omega)]; exact h69, fun u hu => by rw [up_ne (by omega)]; exact hM u hu, fun u hu => by rw [up_ne (by omega)]; exact hE u hu, fun u hu => by rw [up_ne (by omega)]; exact hF u hu, fun u hu => by
    by_cases hut : u = t
    · subst hut
      rw [up_eq, va_up_self]
      exact hy
    · rw [up_ne (by omega), va_up_ne _ _ hut]
      exact hB u hu, fun u hu => by rw [up_ne (by omega)]; exact hV u hu, fun u hu => by rw [up_ne (by omega)]; exact hG u hu, fun u hu => by rw [up_ne (by omega)]; exact hC u hu⟩
theorem RP_V (h : RP cy a e n T S M E r F B V G Cn) {t : Nat} {x : Nat → UInt64} {y : va_E} (ht : t < 12) (hy : isD cy y 6 x) : RP cy a (va_up e (44 + t) y) n T S M E r F B (va_up V t x) G Cn := by
  obtain ⟨h0, hS, h2, h9, hr, h17, h30, h43, h56, h69, hM, hE, hF, hB, hV, hG, hC⟩ := h
  exact ⟨by rw [up_ne (by omega)]; exact h0, by rw [up_ne (by omega)]; exact hS, by rw [up_ne (by omega)]; exact h2, by rw [up_ne (by omega)]; exact h9, by rw [up_ne (by omega)]; exact hr, by rw [up_ne (by omega)]; exact h17, by rw [up_ne (by omega)]; exact h30, by rw [up_ne (by omega)]; exact h43, by rw [up_ne (by omega)]; exact h56, by rw [up_ne (by omega)]; exact h69, fun u hu => by rw [up_ne (by omega)]; exact hM u hu, fun u hu => by rw [up_ne (by omega)]; exact hE u hu, fun u hu => by rw [up_ne (by omega)]; exact hF u hu, fun u hu => by rw [up_ne (by omega)]; exact hB u hu, fun u hu => by
    by_cases hut : u = t
    · subst hut
      rw [up_eq, va_up_self]
      exact hy
    · rw [up_ne (by omega), va_up_ne _ _ hut]
      exact hV u hu, fun u hu => by rw [up_ne (by omega)]; exact hG u hu, fun u hu => by rw [up_ne (by omega)]; exact hC u hu⟩
theorem RP_G (h : RP cy a e n T S M E r F B V G Cn) {t : Nat} {x : Nat → Int32} {y : va_E} (ht : t < 12) (hy : isI cy y 6 x) : RP cy a (va_up e (57 + t) y) n T S M E r F B V (va_up G t x) Cn := by
  obtain ⟨h0, hS, h2, h9, hr, h17, h30, h43, h56, h69, hM, hE, hF, hB, hV, hG, hC⟩ := h
  exact ⟨by rw [up_ne (by omega)]; exact h0, by rw [up_ne (by omega)]; exact hS, by rw [up_ne (by omega)]; exact h2, by rw [up_ne (by omega)]; exact h9, by rw [up_ne (by omega)]; exact hr, by rw [up_ne (by omega)]; exact h17, by rw [up_ne (by omega)]; exact h30, by rw [up_ne (by omega)]; exact h43, by rw [up_ne (by omega)]; exact h56, by rw [up_ne (by omega)]; exact h69, fun u hu => by rw [up_ne (by omega)]; exact hM u hu, fun u hu => by rw [up_ne (by omega)]; exact hE u hu, fun u hu => by rw [up_ne (by omega)]; exact hF u hu, fun u hu => by rw [up_ne (by omega)]; exact hB u hu, fun u hu => by rw [up_ne (by omega)]; exact hV u hu, fun u hu => by
    by_cases hut : u = t
    · subst hut
      rw [up_eq, va_up_self]
      exact hy
    · rw [up_ne (by omega), va_up_ne _ _ hut]
      exact hG u hu, fun u hu => by rw [up_ne (by omega)]; exact hC u hu⟩
theorem RP_C (h : RP cy a e n T S M E r F B V G Cn) {t : Nat} {x : Nat → Int64} {y : va_E} (ht : t < 12) (hy : isL cy y 6 x) : RP cy a (va_up e (70 + t) y) n T S M E r F B V G (va_up Cn t x) := by
  obtain ⟨h0, hS, h2, h9, hr, h17, h30, h43, h56, h69, hM, hE, hF, hB, hV, hG, hC⟩ := h
  exact ⟨by rw [up_ne (by omega)]; exact h0, by rw [up_ne (by omega)]; exact hS, by rw [up_ne (by omega)]; exact h2, by rw [up_ne (by omega)]; exact h9, by rw [up_ne (by omega)]; exact hr, by rw [up_ne (by omega)]; exact h17, by rw [up_ne (by omega)]; exact h30, by rw [up_ne (by omega)]; exact h43, by rw [up_ne (by omega)]; exact h56, by rw [up_ne (by omega)]; exact h69, fun u hu => by rw [up_ne (by omega)]; exact hM u hu, fun u hu => by rw [up_ne (by omega)]; exact hE u hu, fun u hu => by rw [up_ne (by omega)]; exact hF u hu, fun u hu => by rw [up_ne (by omega)]; exact hB u hu, fun u hu => by rw [up_ne (by omega)]; exact hV u hu, fun u hu => by rw [up_ne (by omega)]; exact hG u hu, fun u hu => by
    by_cases hut : u = t
    · subst hut
      rw [up_eq, va_up_self]
      exact hy
    · rw [up_ne (by omega), va_up_ne _ _ hut]
      exact hC u hu⟩
theorem RM_obj (h : RM cy a e n T th S M E r nw od cn bf) {n' T' th' : Nat} {y : va_E} (hy : y = .inr (1, [.int (nI n'), .int (nI T'), .int (nI th'), .ref (a 1), .ref (a 2), .ref (a 3), .ref (a 4), .ref (a 5), .ref (a 6), .ref (a 7), .ref (a 8)])) : RM cy a (va_up e 0 y) n' T' th' S M E r nw od cn bf := by
  obtain ⟨h0, hS, hM, hE, hr, hnw, hod, hcn, hbf⟩ := h
  exact ⟨by rw [up_eq]; exact hy, by rw [up_ne (by omega)]; exact hS, by rw [up_ne (by omega)]; exact hM, by rw [up_ne (by omega)]; exact hE, by rw [up_ne (by omega)]; exact hr, by rw [up_ne (by omega)]; exact hnw, by rw [up_ne (by omega)]; exact hod, by rw [up_ne (by omega)]; exact hcn, by rw [up_ne (by omega)]; exact hbf⟩
theorem RM_S (h : RM cy a e n T th S M E r nw od cn bf) {S' : Nat → UInt64} {y : va_E} (hy : isD cy y 6 S') : RM cy a (va_up e 1 y) n T th S' M E r nw od cn bf := by
  obtain ⟨h0, hS, hM, hE, hr, hnw, hod, hcn, hbf⟩ := h
  exact ⟨by rw [up_ne (by omega)]; exact h0, by rw [up_eq]; exact hy, by rw [up_ne (by omega)]; exact hM, by rw [up_ne (by omega)]; exact hE, by rw [up_ne (by omega)]; exact hr, by rw [up_ne (by omega)]; exact hnw, by rw [up_ne (by omega)]; exact hod, by rw [up_ne (by omega)]; exact hcn, by rw [up_ne (by omega)]; exact hbf⟩
theorem RM_M (h : RM cy a e n T th S M E r nw od cn bf) {M' : T2} {y : va_E} (hy : isD cy y 36 (fun k => M' (k / 6) (k % 6))) : RM cy a (va_up e 2 y) n T th S M' E r nw od cn bf := by
  obtain ⟨h0, hS, hM, hE, hr, hnw, hod, hcn, hbf⟩ := h
  exact ⟨by rw [up_ne (by omega)]; exact h0, by rw [up_ne (by omega)]; exact hS, by rw [up_eq]; exact hy, by rw [up_ne (by omega)]; exact hE, by rw [up_ne (by omega)]; exact hr, by rw [up_ne (by omega)]; exact hnw, by rw [up_ne (by omega)]; exact hod, by rw [up_ne (by omega)]; exact hcn, by rw [up_ne (by omega)]; exact hbf⟩
theorem RM_E (h : RM cy a e n T th S M E r nw od cn bf) {E' : T2} {y : va_E} (hy : isD cy y 24 (fun k => E' (k / 4) (k % 4))) : RM cy a (va_up e 3 y) n T th S M E' r nw od cn bf := by
  obtain ⟨h0, hS, hM, hE, hr, hnw, hod, hcn, hbf⟩ := h
  exact ⟨by rw [up_ne (by omega)]; exact h0, by rw [up_ne (by omega)]; exact hS, by rw [up_ne (by omega)]; exact hM, by rw [up_eq]; exact hy, by rw [up_ne (by omega)]; exact hr, by rw [up_ne (by omega)]; exact hnw, by rw [up_ne (by omega)]; exact hod, by rw [up_ne (by omega)]; exact hcn, by rw [up_ne (by omega)]; exact hbf⟩
theorem RM_r (h : RM cy a e n T th S M E r nw od cn bf) {r' : Nat → Nat} {y : va_E} (hy : isI cy y 12 (fun t => nI (r' t))) : RM cy a (va_up e 4 y) n T th S M E r' nw od cn bf := by
  obtain ⟨h0, hS, hM, hE, hr, hnw, hod, hcn, hbf⟩ := h
  exact ⟨by rw [up_ne (by omega)]; exact h0, by rw [up_ne (by omega)]; exact hS, by rw [up_ne (by omega)]; exact hM, by rw [up_ne (by omega)]; exact hE, by rw [up_eq]; exact hy, by rw [up_ne (by omega)]; exact hnw, by rw [up_ne (by omega)]; exact hod, by rw [up_ne (by omega)]; exact hcn, by rw [up_ne (by omega)]; exact hbf⟩
theorem RM_nw (h : RM cy a e n T th S M E r nw od cn bf) {x : Nat → UInt64} {y : va_E} (hy : isD cy y 6 x) : RM cy a (va_up e 5 y) n T th S M E r x od cn bf := by
  obtain ⟨h0, hS, hM, hE, hr, hnw, hod, hcn, hbf⟩ := h
  exact ⟨by rw [up_ne (by omega)]; exact h0, by rw [up_ne (by omega)]; exact hS, by rw [up_ne (by omega)]; exact hM, by rw [up_ne (by omega)]; exact hE, by rw [up_ne (by omega)]; exact hr, by rw [up_eq]; exact hy, by rw [up_ne (by omega)]; exact hod, by rw [up_ne (by omega)]; exact hcn, by rw [up_ne (by omega)]; exact hbf⟩
theorem RM_od (h : RM cy a e n T th S M E r nw od cn bf) {x : Nat → UInt64} {y : va_E} (hy : isD cy y 6 x) : RM cy a (va_up e 6 y) n T th S M E r nw x cn bf := by
  obtain ⟨h0, hS, hM, hE, hr, hnw, hod, hcn, hbf⟩ := h
  exact ⟨by rw [up_ne (by omega)]; exact h0, by rw [up_ne (by omega)]; exact hS, by rw [up_ne (by omega)]; exact hM, by rw [up_ne (by omega)]; exact hE, by rw [up_ne (by omega)]; exact hr, by rw [up_ne (by omega)]; exact hnw, by rw [up_eq]; exact hy, by rw [up_ne (by omega)]; exact hcn, by rw [up_ne (by omega)]; exact hbf⟩
theorem RM_cn (h : RM cy a e n T th S M E r nw od cn bf) {x : Nat → Int64} {y : va_E} (hy : isL cy y 6 x) : RM cy a (va_up e 7 y) n T th S M E r nw od x bf := by
  obtain ⟨h0, hS, hM, hE, hr, hnw, hod, hcn, hbf⟩ := h
  exact ⟨by rw [up_ne (by omega)]; exact h0, by rw [up_ne (by omega)]; exact hS, by rw [up_ne (by omega)]; exact hM, by rw [up_ne (by omega)]; exact hE, by rw [up_ne (by omega)]; exact hr, by rw [up_ne (by omega)]; exact hnw, by rw [up_ne (by omega)]; exact hod, by rw [up_eq]; exact hy, by rw [up_ne (by omega)]; exact hbf⟩
theorem RM_bf (h : RM cy a e n T th S M E r nw od cn bf) {x : Nat → Int64} {y : va_E} (hy : isL cy y 6 x) : RM cy a (va_up e 8 y) n T th S M E r nw od cn x := by
  obtain ⟨h0, hS, hM, hE, hr, hnw, hod, hcn, hbf⟩ := h
  exact ⟨by rw [up_ne (by omega)]; exact h0, by rw [up_ne (by omega)]; exact hS, by rw [up_ne (by omega)]; exact hM, by rw [up_ne (by omega)]; exact hE, by rw [up_ne (by omega)]; exact hr, by rw [up_ne (by omega)]; exact hnw, by rw [up_ne (by omega)]; exact hod, by rw [up_ne (by omega)]; exact hcn, by rw [up_eq]; exact hy⟩
end RPs
theorem inl_pos0 : clP[0]? = some (RX0, TX0, 11) := rfl
theorem inl_pos1 : clP[1]? = some (RX1, TX1, 11) := rfl
theorem tyD2 (cy : Nat → ClassId) : (tys0 cy)[3]? = some (cy 3, .array .double) := rfl
theorem tyI2 (cy : Nat → ClassId) : (tys0 cy)[4]? = some (cy 4, .array .int) := rfl
theorem tyL2 (cy : Nat → ClassId) : (tys0 cy)[5]? = some (cy 5, .array .long) := rfl
/-- numbers -/
theorem nI_sub1 {t : Nat} (h : 0 < t) : nI t - nI 1 = nI (t - 1) := pk_sub h
theorem nI_add1 (t : Nat) : nI t + nI 1 = nI (t + 1) := nI_add t 1
theorem nI_inc (t : Nat) : nI t + Int32.ofInt 1 = nI (t + 1) := nI_add t 1
theorem nI_dec {t : Nat} (h : 0 < t) : nI t + Int32.ofInt (-1) = nI (t - 1) := by
  obtain ⟨k, rfl⟩ : ∃ k, t = k + 1 := ⟨t - 1, by omega⟩
  show nI (k + 1) + (-1) = nI (k + 1 - 1)
  rw [pk_m1]
  rfl
theorem nI_ge_n {i n : Nat} (h : ¬ nI n ≤ nI i) (hi : i < 2 ^ 31) (hn : n < 2 ^ 31) : i < n := Nat.lt_of_not_le (fun q => h ((nI_leI hn hi).mpr q))
theorem nI_le_n {i n : Nat} (h : nI n ≤ nI i) (hi : i < 2 ^ 31) (hn : n < 2 ^ 31) : n ≤ i := (nI_leI hn hi).mp h

