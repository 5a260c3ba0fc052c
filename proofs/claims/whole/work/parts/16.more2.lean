theorem flat_div {w i j : Nat} (h : j < w) : (w * i + j) / w = i := by
  rw [Nat.mul_add_div (by omega), Nat.div_eq_of_lt h]
  rfl
theorem flat_mod {w i j : Nat} (h : j < w) : (w * i + j) % w = j := by
  rw [Nat.mul_add_mod, Nat.mod_eq_of_lt h]
theorem flat_up {M : T2} {w i j n : Nat} {x : UInt64} (hj : j < w) : ∀ k, k < n → va_up (fun k => M (k / w) (k % w)) (w * i + j) x k = (fun k => va_up M i (va_up (M i) j x) (k / w) (k % w)) k := fun k _ => by
  show va_up (fun k => M (k / w) (k % w)) (w * i + j) x k = va_up M i (va_up (M i) j x) (k / w) (k % w)
  by_cases h1 : k = w * i + j
  · subst h1
    rw [va_up_self, flat_div hj, flat_mod hj, va_up_self, va_up_self]
  · rw [va_up_ne _ _ h1]
    show M (k / w) (k % w) = _
    by_cases h2 : k / w = i
    · have h3 : k % w ≠ j := fun h => h1 (by rw [← h2, ← h]; exact (Nat.div_add_mod k w).symm)
      rw [h2, va_up_self, va_up_ne _ _ h3]
    · rw [va_up_ne _ _ h2]
section GC3
variable {p : Program} {l : Launch} {en : Env} {R : Room} {s : State} {m : MethodId} {args : Array Value} {below : List Frame} {meth : Method} {c : Code} {cells slots : Nat} {Q : State → Prop} {D : va_G} {cl : List vw_C} {cy : Nat → ClassId} {N nL : Nat} {a : Nat → Nat} {A : Nat → Prop} {e : Nat → va_E} {cc : ByteArray} {pc : Nat} {lv : List (Nat × Value)} {st : List Value} {Ts : List Cond} {own : String}

theorem g_dald2 (C : Cx p s m args c cc Ts own D cl cy N nL a A) {q0 n w i j : Nat} {M : T2} (hq0 : q0 < N) (he : isD cy (e q0) n (fun k => M (k / w) (k % w))) (hj : j < w) (hi : w * i + j < n) (hn : n < 2 ^ 31) (hdg : decode cc pc = .ok (.daload, 1)) (kk : GW p l en R s m args below meth c cells slots Q D cl N nL a A e (pc + 1) lv (.double (M i j) :: st)) : GW p l en R s m args below meth c cells slots Q D cl N nL a A e (pc) lv (.int (nI (w * i + j)) :: .ref (a q0) :: st) := by
  refine g_dald C hq0 he hi hn hdg ?_
  show GW p l en R s m args below meth c cells slots Q D cl N nL a A e (pc + 1) lv (.double (M ((w * i + j) / w) ((w * i + j) % w)) :: st)
  rw [flat_div hj, flat_mod hj]
  exact kk
theorem g_dast2 (C : Cx p s m args c cc Ts own D cl cy N nL a A) {q0 n w i j : Nat} {M : T2} {x : UInt64} (hq0 : q0 < N) (he : isD cy (e q0) n (fun k => M (k / w) (k % w))) (hj : j < w) (hi : w * i + j < n) (hn : n < 2 ^ 31) (hdg : decode cc pc = .ok (.dastore, 1)) (kk : ∀ y : va_E, isD cy y n (fun k => va_up M i (va_up (M i) j x) (k / w) (k % w)) → GW p l en R s m args below meth c cells slots Q D cl N nL a A (va_up e q0 y) (pc + 1) lv (st)) : GW p l en R s m args below meth c cells slots Q D cl N nL a A e (pc) lv (.double x :: .int (nI (w * i + j)) :: .ref (a q0) :: st) := g_dast C hq0 he hi hn hdg (fun y hy => kk y (hy.to (flat_up hj)))
end GC3
theorem RM_sc {cy : Nat → ClassId} {a : Nat → Nat} {e : Nat → va_E} {n T th : Nat} {S : Nat → UInt64} {M E : T2} {r : Nat → Nat} {nw od nw' od' : Nat → UInt64} {cn bf cn' bf' : Nat → Int64} (h : RM cy a e n T th S M E r nw od cn bf) (h1 : ∀ j, j < 6 → nw j = nw' j) (h2 : ∀ j, j < 6 → od j = od' j) (h3 : ∀ j, j < 6 → cn j = cn' j) (h4 : ∀ j, j < 6 → bf j = bf' j) : RM cy a e n T th S M E r nw' od' cn' bf' := by
  obtain ⟨k0, kS, kM, kE, kr, k5, k6, k7, k8⟩ := h
  exact ⟨k0, kS, kM, kE, kr, k5.to h1, k6.to h2, k7.to h3, k8.to h4⟩
theorem sym_hi {x : Int32} (h : nI 3 < x) : ¬ ∃ j, j < 4 ∧ x = nI j := fun ⟨j, h1, h2⟩ => by
  subst h2
  exact nI_nlt (a := 3) (b := j) (by omega) (by decide) h
theorem sym_in {x : Int32} (h0 : ¬ x < 0) (h : ¬ nI 3 < x) : ∃ j, j < 4 ∧ x = nI j := by
  rcases pk_ix x (n := 4) (by decide) with q | q | q
  · exact absurd q h0
  · refine absurd ?_ h
    rw [Int32.lt_iff_toInt_lt, nI_toInt (by decide)]
    rw [Int32.le_iff_toInt_le, nI_toInt (by decide)] at q
    omega
  · exact q

