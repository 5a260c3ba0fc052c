section GL
variable {p : Program} {l : Launch} {en : Env} {R : Room} {s : State} {m : MethodId} {args : Array Value} {below : List Frame} {meth : Method} {c : Code} {cells slots : Nat} {Q : State → Prop} {D : va_G} {cl : List vw_C} {cy : Nat → ClassId} {N nL : Nat} {a : Nat → Nat} {A : Nat → Prop} {e : Nat → va_E} {cc : ByteArray} {pc : Nat} {lv : List (Nat × Value)} {st : List Value} {Ts : List Cond} {own : String}

theorem g_sld (C : Cx p s m args c cc Ts own D cl cy N nL a A) {b L i : Nat} {xs : Nat → Int32} (hX : va_X b L xs s s.heap) (hbl : b < s.heap.size) (hbA : ¬ A b) (hi : i < L) (hL : L < 2 ^ 31) (hdg : decode cc pc = .ok (.iaload, 1)) (kk : GW p l en R s m args below meth c cells slots Q D cl N nL a A e (pc + 1) lv (.int (xs i) :: st)) : GW p l en R s m args below meth c cells slots Q D cl N nL a A e (pc) lv (.int (nI i) :: .ref b :: st) := by
  intro H locs ls hP hS hl
  refine va_sld C.1 C.2.1 hX hbl hbA hS (vp_in_nI hi hL) hdg ?_
  rw [nI_clamp (Nat.lt_trans hi hL)]
  exact kk H locs ls hP hS hl
theorem g_slen (C : Cx p s m args c cc Ts own D cl cy N nL a A) {b L : Nat} {xs : Nat → Int32} (hX : va_X b L xs s s.heap) (hbl : b < s.heap.size) (hbA : ¬ A b) (hdg : decode cc pc = .ok (.arraylength, 1)) (kk : GW p l en R s m args below meth c cells slots Q D cl N nL a A e (pc + 1) lv (.int (nI L) :: st)) : GW p l en R s m args below meth c cells slots Q D cl N nL a A e (pc) lv (.ref b :: st) := fun H locs ls hP hS hl => va_slen C.1 C.2.1 hX hbl hbA hS hdg (kk H locs ls hP hS hl)
theorem g_tableIn (C : Cx p s m args c cc Ts own D cl cy N nL a A) {dflt lo hi : Int} {offs : Array Int} {len : Nat} {x : Int32} {off : Int} {tgt : Nat} (hdg : decode cc pc = .ok (.tableswitch dflt lo hi offs, len)) (h1 : ¬ x.toInt < lo) (h2 : ¬ hi < x.toInt) (ho : offs[(x.toInt - lo).toNat]? = some off) (ht : (pc : Int) + off = (tgt : Int)) (kk : GW p l en R s m args below meth c cells slots Q D cl N nL a A e (tgt) lv (st)) : GW p l en R s m args below meth c cells slots Q D cl N nL a A e (pc) lv (.int x :: st) := fun H locs ls hP hS hl => lv_tableIn C.1 C.2.1 hdg h1 h2 ho ht (kk H locs ls hP hS hl)
theorem g_tableOut (C : Cx p s m args c cc Ts own D cl cy N nL a A) {dflt lo hi : Int} {offs : Array Int} {len : Nat} {x : Int32} {tgt : Nat} (hdg : decode cc pc = .ok (.tableswitch dflt lo hi offs, len)) (h : x.toInt < lo ∨ hi < x.toInt) (ht : (pc : Int) + dflt = (tgt : Int)) (kk : GW p l en R s m args below meth c cells slots Q D cl N nL a A e (tgt) lv (st)) : GW p l en R s m args below meth c cells slots Q D cl N nL a A e (pc) lv (.int x :: st) := fun H locs ls hP hS hl => lv_tableOut C.1 C.2.1 hdg h ht (kk H locs ls hP hS hl)
theorem g_ldc2d (C : Cx p s m args c cc Ts own D cl cy N nL a A) {index : Nat} {v : UInt64} (hconst : (Jvm.Cond.constantDouble own index v).before args s = true) (hdg : decode cc pc = .ok (.ldc2_w index, 3)) (kk : GW p l en R s m args below meth c cells slots Q D cl N nL a A e (pc + 3) lv (.double v :: st)) : GW p l en R s m args below meth c cells slots Q D cl N nL a A e (pc) lv (st) := fun H locs ls hP hS hl => lv_ldc2d C.1 C.2.1 C.2.2.2.1 hconst hdg (kk H locs ls hP hS hl)
end GL
theorem n64_ne {x : UInt64} (h : vf_n64 x) : FP.Core.val64 x ≠ .nan := by
  unfold vf_n64 at h
  rw [UInt64.le_iff_toNat_le, UInt64.toNat_and] at h
  have h1 : (0x7fffffffffffffff : UInt64).toNat = 2 ^ 63 - 1 := by decide
  rw [h1, Nat.and_two_pow_sub_one_eq_mod] at h
  exact (FP.Core.ne_nan x).mpr h
theorem cmp_self {x : UInt64} (h : vf_n64 x) : Op.cmpValue (FP.dcmp x x) CmpOp.l = 0 := by
  rw [show FP.dcmp x x = FP.Core.dcmp x x from rfl, FP.Core.dcmp_self (n64_ne h)]
  rfl
theorem lcmp_self (x : Int64) : lg_cmp x x = 0 := by
  unfold lg_cmp
  simp
theorem fBest_mg {n T : Nat} {S : Nat → UInt64} {M E : T2} {r : Nat → Nat} (hn : 1 ≤ n ∧ n ≤ 6) (hT : T ≤ 12) (hW : WB S M E) (hr : RW4 r) : mg 1214 (fBest n S M E r T) := by
  unfold fBest
  by_cases h : T = 0
  · rw [if_pos h]
    exact mg_mono mg_1 (by decide)
  · rw [if_neg h]
    have hl := am_lt (fun j => fV n S M E r (T - 1) j) n (by omega)
    exact mg_mono (fV_mg (by omega) hn.2 hW hr (T - 1) _ (by omega) (by omega)) (by omega)
theorem WB_0 : WB z1 z2 z2 := ⟨fun _ _ => mg_0 (by decide), fun _ _ _ _ => mg_0 (by decide), fun _ _ _ _ => mg_0 (by decide)⟩
theorem WB_S {S : Nat → UInt64} {M E : T2} {i : Nat} {w : UInt64} (h : WB S M E) (hw : okW w) : WB (va_up S i w) M E := by
  refine ⟨fun j hj => ?_, h.2⟩
  by_cases hji : j = i
  · subst hji; rw [va_up_self]; exact okW_mg hw
  · rw [va_up_ne _ _ hji]; exact h.1 j hj
theorem WB_M {S : Nat → UInt64} {M E : T2} {i j : Nat} {w : UInt64} (h : WB S M E) (hw : okW w) : WB S (va_up M i (va_up (M i) j w)) E := by
  refine ⟨h.1, fun q u hq hu => ?_, h.2.2⟩
  by_cases hqi : q = i
  · subst hqi
    rw [va_up_self]
    by_cases huj : u = j
    · subst huj; rw [va_up_self]; exact okW_mg hw
    · rw [va_up_ne _ _ huj]; exact h.2.1 q u hq hu
  · rw [va_up_ne _ _ hqi]; exact h.2.1 q u hq hu
theorem WB_E {S : Nat → UInt64} {M E : T2} {i j : Nat} {w : UInt64} (h : WB S M E) (hw : okW w) : WB S M (va_up E i (va_up (E i) j w)) := by
  refine ⟨h.1, h.2.1, fun q u hq hu => ?_⟩
  by_cases hqi : q = i
  · subst hqi
    rw [va_up_self]
    by_cases huj : u = j
    · subst huj; rw [va_up_self]; exact okW_mg hw
    · rw [va_up_ne _ _ huj]; exact h.2.2 q u hq hu
  · rw [va_up_ne _ _ hqi]; exact h.2.2 q u hq hu
theorem RW4_up {r : Nat → Nat} {T k : Nat} (h : RW4 r) (hk : k < 4) : RW4 (va_up r T k) := fun t ht => by
  by_cases htT : t = T
  · subst htT; rw [va_up_self]; exact hk
  · rw [va_up_ne _ _ htT]; exact h t ht
/-- what holds at the law's loop: class and reference stand for the same -/
def LI (cy : Nat → ClassId) (a : Nat → Nat) (e : Nat → va_E) : Prop := ∃ (n T th : Nat) (S : Nat → UInt64) (M E : T2) (r : Nat → Nat) (F B V : T2) (G : Nat → Nat → Int32) (Cn : Nat → Nat → Int64) (nw od : Nat → UInt64) (cn bf : Nat → Int64) (v0 : Nat → UInt64), RP cy a e n T S M E r F B V G Cn ∧ RM cy (fun k => a (k + 83)) (fun k => e (k + 83)) n T th S M E r nw od cn bf ∧ isD cy (e 82) 1 v0 ∧ (1 ≤ n ∧ n ≤ 6) ∧ T ≤ 12 ∧ WB S M E ∧ RW4 r

