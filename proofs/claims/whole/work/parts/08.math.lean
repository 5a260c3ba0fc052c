/-! doubles: magnitudes, and the numbers that the class and the reference work out -/
def mg (K : Nat) (x : UInt64) : Prop := x.toNat % 2 ^ 63 < K * 2 ^ 52
theorem mg_mono {K L : Nat} {x : UInt64} (h : mg K x) (hl : K ≤ L) : mg L x := Nat.lt_of_lt_of_le h (Nat.mul_le_mul_right _ hl)
theorem n64_of {x : UInt64} (h : x.toNat % 2 ^ 63 ≤ 9218868437227405312) : vf_n64 x := by
  unfold vf_n64
  rw [UInt64.le_iff_toNat_le, UInt64.toNat_and]
  have h1 : (0x7fffffffffffffff : UInt64).toNat = 2 ^ 63 - 1 := by decide
  rw [h1, Nat.and_two_pow_sub_one_eq_mod]
  exact h
theorem mg_n64 {K : Nat} {x : UInt64} (h : mg K x) (hK : K ≤ 2047) : vf_n64 x := by
  apply n64_of
  have h1 := mg_mono h hK
  unfold mg at h1
  omega
theorem mg_mul {K L : Nat} {x y : UInt64} (hx : mg K x) (hy : mg L y) (hK : K ≤ 2047) (hL : L ≤ 2047) : mg (K + L - 1025 + 3) (FP.dmul x y) := FP.Core.dmul_mag hx hy hK hL
theorem mg_add {K : Nat} {x y : UInt64} (hx : mg K x) (hy : mg K y) (hK : K ≤ 2047) : mg (K + 2) (FP.dadd x y) := FP.Core.dadd_mag hx hy hK
theorem mg_0 {K : Nat} (hK : 1 ≤ K) : mg K FP.dconst0 := by
  unfold mg
  have : (FP.dconst0 : UInt64).toNat % 2 ^ 63 = 0 := by decide +kernel
  rw [this]
  omega
theorem mg_1 : mg 1024 FP.dconst1 := by unfold mg; decide +kernel
theorem mg_fin {K : Nat} {x : UInt64} (h : mg K x) (hK : K ≤ 2047) : FP.Core.DFin x := FP.Core.fin_of_lt h hK
theorem div_n64 {K L : Nat} {x y : UInt64} (hx : mg K x) (hy : mg L y) (hK : K ≤ 2047) (hL : L ≤ 2047) (h0 : ¬ y.toNat % 2 ^ 63 = 0) : vf_n64 (FP.ddiv x y) := by
  have h1 := FP.Core.ddiv_out (mg_fin hx hK).notNaN (mg_fin hy hL) (fun z => h0 ((FP.Core.zero_bits2 y).mp z))
  have h2 := (FP.Core.ne_nan (FP.Core.ddiv x y)).mp ((FP.Core.notNaN_iff _).mp h1)
  exact n64_of h2
theorem dkey_eq (x : UInt64) : FP.Core.dkey x = if 2 ^ 63 ≤ x.toNat then ((2 ^ 63 : Nat) : Int) - (x.toNat : Int) else (x.toNat : Int) := rfl
/-- the test of a weight -/
def okW (w : UInt64) : Prop := ¬ Op.cmpValue (FP.dcmp w FP.dconst0) CmpOp.l < 0 ∧ ¬ 0 < Op.cmpValue (FP.dcmp w FP.dconst1) CmpOp.g
theorem okW_mg {w : UInt64} (h : okW w) : mg 1024 w := by
  obtain ⟨h1, h2⟩ := h
  have n0 : FP.Core.val64 FP.dconst0 ≠ .nan := by
    show FP.Core.val64 FP.Core.dconst0 ≠ .nan
    rw [FP.Core.val64_dconst0]
    exact FP.Core.Datum.noConfusion
  have n1 : FP.Core.val64 FP.dconst1 ≠ .nan := by
    show FP.Core.val64 FP.Core.dconst1 ≠ .nan
    rw [FP.Core.val64_dconst1]
    exact FP.Core.Datum.noConfusion
  have nw : FP.Core.val64 w ≠ .nan := fun q => by
    have := (FP.Core.dcmp_none w FP.dconst0).mpr (Or.inl q)
    rw [show FP.dcmp w FP.dconst0 = FP.Core.dcmp w FP.dconst0 from rfl, this] at h1
    exact h1 (by decide)
  rw [show FP.dcmp w FP.dconst0 = FP.Core.dcmp w FP.dconst0 from rfl, FP.Core.dcmp_key nw n0] at h1
  rw [show FP.dcmp w FP.dconst1 = FP.Core.dcmp w FP.dconst1 from rfl, FP.Core.dcmp_key nw n1] at h2
  have k0 : FP.Core.dkey FP.dconst0 = 0 := by decide +kernel
  have k1 : FP.Core.dkey FP.dconst1 = 1023 * 2 ^ 52 := by decide +kernel
  rw [k0] at h1
  rw [k1] at h2
  have a1 : ¬ FP.Core.dkey w < 0 := fun q => by
    rw [(FP.Core.compare_lt_iff _ _).mpr q] at h1
    exact h1 (by decide)
  have a2 : ¬ (1023 * 2 ^ 52 : Int) < FP.Core.dkey w := fun q => by
    rw [(FP.Core.compare_gt_iff _ _).mpr q] at h2
    exact h2 (by decide)
  rw [dkey_eq] at a1 a2
  unfold mg
  have := w.toNat_lt
  by_cases hs : 2 ^ 63 ≤ w.toNat
  · rw [if_pos hs] at a1 a2
    omega
  · rw [if_neg hs] at a1 a2
    omega
/-- what the comparison with 0 says -/
theorem ne0_of {K : Nat} {y : UInt64} (hy : mg K y) (hK : K ≤ 2047) (h : ¬ Op.cmpValue (FP.dcmp y FP.dconst0) CmpOp.l = 0) : ¬ y.toNat % 2 ^ 63 = 0 := fun q => by
  have n0 : FP.Core.val64 FP.dconst0 ≠ .nan := by
    show FP.Core.val64 FP.Core.dconst0 ≠ .nan
    rw [FP.Core.val64_dconst0]
    exact FP.Core.Datum.noConfusion
  have ny := (mg_fin hy hK).ne_nan
  rw [show FP.dcmp y FP.dconst0 = FP.Core.dcmp y FP.dconst0 from rfl, FP.Core.dcmp_key ny n0] at h
  have k0 : FP.Core.dkey FP.dconst0 = 0 := by decide +kernel
  have ky : FP.Core.dkey y = 0 := by
    rw [dkey_eq]
    have := y.toNat_lt
    by_cases hs : 2 ^ 63 ≤ y.toNat
    · rw [if_pos hs]; omega
    · rw [if_neg hs]; omega
  rw [k0, ky] at h
  exact h (by decide)
/-- int times an eighth: no NaN -/
theorem eighth_n64 (x : Int32) : vf_n64 (FP.dmul (FP.i2d x) 4593671619917905920) := by
  have h1 : mg 1056 (FP.i2d x) := FP.Core.i2d_mag x
  have h2 : mg 1024 4593671619917905920 := by unfold mg; decide +kernel
  exact mg_n64 (mg_mul h1 h2 (by decide) (by decide)) (by decide)
/-! sums and greatest -/
def fsm (f : Nat → UInt64) : Nat → UInt64
  | 0 => FP.dconst0
  | k + 1 => FP.dadd (fsm f k) (f k)
theorem fsm_mg {f : Nat → UInt64} {K n : Nat} (h : ∀ i, i < n → mg K (f i)) (h1 : 1 ≤ K) (hb : K + 2 * n ≤ 2047) : ∀ k, k ≤ n → mg (K + 2 * k) (fsm f k)
  | 0, _ => mg_0 h1
  | k + 1, hk => mg_mono (mg_add (fsm_mg h h1 hb k (by omega)) (mg_mono (h k (by omega)) (by omega)) (by omega)) (by omega)
theorem fsm_congr {f g : Nat → UInt64} {n : Nat} (h : ∀ i, i < n → f i = g i) : ∀ k, k ≤ n → fsm f k = fsm g k
  | 0, _ => rfl
  | k + 1, hk => by
    show FP.dadd (fsm f k) (f k) = FP.dadd (fsm g k) (g k)
    rw [fsm_congr h k (by omega), h k (by omega)]
def gtD (x y : UInt64) : Bool := decide (¬ Op.cmpValue (FP.dcmp x y) CmpOp.l ≤ 0)
theorem gtD_t {x y : UInt64} (h : ¬ Op.cmpValue (FP.dcmp x y) CmpOp.l ≤ 0) : gtD x y = true := decide_eq_true h
theorem gtD_f {x y : UInt64} (h : Op.cmpValue (FP.dcmp x y) CmpOp.l ≤ 0) : gtD x y = false := decide_eq_false (fun q => q h)
def am (f : Nat → UInt64) : Nat → Nat
  | 0 => 0
  | k + 1 => if gtD (f k) (f (am f k)) = true then k else am f k
theorem am_1 (f : Nat → UInt64) : am f 1 = 0 := by
  show (if gtD (f 0) (f (am f 0)) = true then 0 else am f 0) = 0
  split <;> rfl
theorem am_lt (f : Nat → UInt64) : ∀ k, 0 < k → am f k < k
  | 0, h => absurd h (by decide)
  | k + 1, _ => by
    show (if gtD (f k) (f (am f k)) = true then k else am f k) < k + 1
    split
    · omega
    · by_cases hk : k = 0
      · subst hk
        show 0 < 1
        omega
      · have := am_lt f k (by omega)
        omega
theorem am_t {f : Nat → UInt64} {k : Nat} (h : gtD (f k) (f (am f k)) = true) : am f (k + 1) = k := if_pos h
theorem am_f {f : Nat → UInt64} {k : Nat} (h : gtD (f k) (f (am f k)) = false) : am f (k + 1) = am f k := if_neg (by rw [h]; decide)
theorem am_congr {f g : Nat → UInt64} {n : Nat} (hn : 0 < n) (h : ∀ i, i < n → f i = g i) : ∀ k, k ≤ n → am f k = am g k
  | 0, _ => rfl
  | k + 1, hk => by
    have ih := am_congr hn h k (by omega)
    show (if gtD (f k) (f (am f k)) = true then k else am f k) = (if gtD (g k) (g (am g k)) = true then k else am g k)
    have hl : am g k < n := by
      by_cases h0 : k = 0
      · subst h0
        exact hn
      · have := am_lt g k (by omega)
        omega
    rw [ih, h k (by omega), h _ hl]
/-! forward, backward, best, counts -/
def fA (n : Nat) (S : Nat → UInt64) (M E : Nat → Nat → UInt64) (r : Nat → Nat) : Nat → Nat → UInt64
  | 0, j => FP.dmul (S j) (E j (r 0))
  | t + 1, j => FP.dmul (fsm (fun i => FP.dmul (fA n S M E r t i) (M i j)) n) (E j (r (t + 1)))
def fB (n : Nat) (M E : Nat → Nat → UInt64) (r : Nat → Nat) (T : Nat) : Nat → Nat → UInt64
  | 0, _ => FP.dconst1
  | d + 1, i => fsm (fun j => FP.dmul (FP.dmul (M i j) (E j (r (T - 1 - d)))) (fB n M E r T d j)) n
def fV (n : Nat) (S : Nat → UInt64) (M E : Nat → Nat → UInt64) (r : Nat → Nat) : Nat → Nat → UInt64
  | 0, j => FP.dmul (S j) (E j (r 0))
  | t + 1, j => FP.dmul ((fun i => FP.dmul (fV n S M E r t i) (M i j)) (am (fun i => FP.dmul (fV n S M E r t i) (M i j)) n)) (E j (r (t + 1)))
/-- from(t, j), t above 0 -/
def fG (n : Nat) (S : Nat → UInt64) (M E : Nat → Nat → UInt64) (r : Nat → Nat) (t j : Nat) : Nat := am (fun i => FP.dmul (fV n S M E r (t - 1) i) (M i j)) n
/-- the state d places before the last in the best row -/
def fH (n : Nat) (S : Nat → UInt64) (M E : Nat → Nat → UInt64) (r : Nat → Nat) (T : Nat) : Nat → Nat
  | 0 => am (fun j => fV n S M E r (T - 1) j) n
  | d + 1 => fG n S M E r (T - 1 - d) (fH n S M E r T d)
def lsm (f : Nat → Int64) : Nat → Int64
  | 0 => 0
  | k + 1 => lsm f k + f k
theorem lsm_congr {f g : Nat → Int64} {n : Nat} (h : ∀ i, i < n → f i = g i) : ∀ k, k ≤ n → lsm f k = lsm g k
  | 0, _ => rfl
  | k + 1, hk => by
    show lsm f k + f k = lsm g k + g k
    rw [lsm_congr h k (by omega), h k (by omega)]
def csm (b : Nat → Bool) (f : Nat → Int64) : Nat → Int64
  | 0 => 0
  | k + 1 => if b k = true then csm b f k + f k else csm b f k
theorem csm_congr {b d : Nat → Bool} {f g : Nat → Int64} {n : Nat} (hb : ∀ i, i < n → b i = d i) (h : ∀ i, i < n → f i = g i) : ∀ k, k ≤ n → csm b f k = csm d g k
  | 0, _ => rfl
  | k + 1, hk => by
    show (if b k = true then csm b f k + f k else csm b f k) = (if d k = true then csm d g k + g k else csm d g k)
    rw [csm_congr hb h k (by omega), h k (by omega), hb k (by omega)]
theorem csm_none (f : Nat → Int64) : ∀ k, csm (fun _ => false) f k = 0
  | 0 => rfl
  | k + 1 => by
    show (if false = true then csm (fun _ => false) f k + f k else csm (fun _ => false) f k) = 0
    rw [csm_none f k]
    rfl
def fC (n : Nat) (S : Nat → UInt64) (M E : Nat → Nat → UInt64) (r : Nat → Nat) : Nat → Nat → Int64
  | 0, j => if gtD (E j (r 0)) FP.dconst0 = true then (if gtD (S j) FP.dconst0 = true then 1 else 0) else 0
  | t + 1, j => if gtD (E j (r (t + 1))) FP.dconst0 = true then csm (fun i => gtD (M i j) FP.dconst0) (fC n S M E r t) n else 0
/-- the weights are weights -/
def WB (S : Nat → UInt64) (M E : Nat → Nat → UInt64) : Prop := (∀ i, i < 6 → mg 1024 (S i)) ∧ (∀ i j, i < 6 → j < 6 → mg 1024 (M i j)) ∧ ∀ i k, i < 6 → k < 4 → mg 1024 (E i k)
def RW4 (r : Nat → Nat) : Prop := ∀ t, t < 12 → r t < 4
theorem fA_mg {n : Nat} {S : Nat → UInt64} {M E : Nat → Nat → UInt64} {r : Nat → Nat} (hn : n ≤ 6) (hW : WB S M E) (hr : RW4 r) : ∀ t j, t < 12 → j < 6 → mg (1026 + 16 * t) (fA n S M E r t j)
  | 0, j, _, hj => mg_mono (mg_mul (hW.1 j hj) (hW.2.2 j (r 0) hj (hr 0 (by decide))) (by decide) (by decide)) (by decide)
  | t + 1, j, ht, hj => by
    have h1 : ∀ i, i < n → mg (1028 + 16 * t) (FP.dmul (fA n S M E r t i) (M i j)) := fun i hi => mg_mono (mg_mul (fA_mg hn hW hr t i (by omega) (by omega)) (hW.2.1 i j (by omega) hj) (by omega) (by decide)) (by omega)
    have h2 := fsm_mg h1 (by omega) (by omega) n (Nat.le_refl n)
    exact mg_mono (mg_mul h2 (hW.2.2 j (r (t + 1)) hj (hr (t + 1) ht)) (by omega) (by decide)) (by omega)
theorem fB_mg {n T : Nat} {S : Nat → UInt64} {M E : Nat → Nat → UInt64} {r : Nat → Nat} (hn : n ≤ 6) (hT : T ≤ 12) (hW : WB S M E) (hr : RW4 r) : ∀ d i, d < T → i < 6 → mg (1024 + 16 * d) (fB n M E r T d i)
  | 0, _, _, _ => mg_1
  | d + 1, i, hd, hi => by
    have h1 : ∀ j, j < n → mg (1028 + 16 * d) (FP.dmul (FP.dmul (M i j) (E j (r (T - 1 - d)))) (fB n M E r T d j)) := fun j hj => mg_mono (mg_mul (mg_mul (hW.2.1 i j hi (by omega)) (hW.2.2 j (r (T - 1 - d)) (by omega) (hr _ (by omega))) (by decide) (by decide)) (fB_mg hn hT hW hr d j (by omega) (by omega)) (by decide) (by omega)) (by omega)
    exact mg_mono (fsm_mg h1 (by omega) (by omega) n (Nat.le_refl n)) (by omega)
theorem fV_mg {n : Nat} {S : Nat → UInt64} {M E : Nat → Nat → UInt64} {r : Nat → Nat} (hn0 : 0 < n) (hn : n ≤ 6) (hW : WB S M E) (hr : RW4 r) : ∀ t j, t < 12 → j < 6 → mg (1026 + 16 * t) (fV n S M E r t j)
  | 0, j, _, hj => mg_mono (mg_mul (hW.1 j hj) (hW.2.2 j (r 0) hj (hr 0 (by decide))) (by decide) (by decide)) (by decide)
  | t + 1, j, ht, hj => by
    have hl := am_lt (fun i => FP.dmul (fV n S M E r t i) (M i j)) n hn0
    have h1 : mg (1028 + 16 * t) ((fun i => FP.dmul (fV n S M E r t i) (M i j)) (am (fun i => FP.dmul (fV n S M E r t i) (M i j)) n)) := mg_mono (mg_mul (fV_mg hn0 hn hW hr t _ (by omega) (by omega)) (hW.2.1 _ j (by omega) hj) (by omega) (by decide)) (by omega)
    exact mg_mono (mg_mul h1 (hW.2.2 j (r (t + 1)) hj (hr (t + 1) ht)) (by omega) (by decide)) (by omega)
