/-! numbers of a grid, held exactly by doubles and floats: n * 2^e -/
/-- the datum of n * 2^e -/
def g_d (f : FP.Core.Fmt) (n e : Int) : FP.Core.Datum := FP.Core.round f (.fin (decide (n < 0)) n.natAbs e)
/-- n fits -/
def g_ok (f : FP.Core.Fmt) (n e : Int) : Prop := n.natAbs < 2 ^ f.p ∧ f.qmin ≤ e ∧ e ≤ f.qmax
theorem g_cancel {m k x y : Nat} (h : m * 2 ^ x = k * 2 ^ y) : m * 2 ^ (x - y) = k * 2 ^ (y - x) := by
  rcases Nat.le_total x y with q | q
  · rw [show x - y = 0 by omega, Nat.pow_zero, Nat.mul_one]
    refine Nat.eq_of_mul_eq_mul_right (Nat.two_pow_pos x) ?_
    rw [h, Nat.mul_assoc, ← Nat.pow_add, show y - x + x = y by omega]
  · rw [show y - x = 0 by omega, Nat.pow_zero, Nat.mul_one]
    refine Nat.eq_of_mul_eq_mul_right (Nat.two_pow_pos y) ?_
    rw [← h, Nat.mul_assoc, ← Nat.pow_add, show x - y + y = x by omega]
/-- a number of the grid, however it is written -/
theorem g_round {f : FP.Core.Fmt} {s : Bool} {m : Nat} {e1 n e e0 : Int} (h1 : e0 ≤ e1) (h2 : e0 ≤ e) (hs : s = decide (n < 0)) (hm : FP.Core.inUnits m e1 e0 = FP.Core.inUnits n.natAbs e e0) : FP.Core.round f (.fin s m e1) = g_d f n e := by
  subst hs
  show FP.Core.roundRatio f _ _ 1 _ = FP.Core.roundRatio f _ _ 1 _
  refine FP.Core.roundRatio_congr (by decide) (by decide) ?_
  unfold FP.Core.inUnits at hm
  have := g_cancel hm
  rw [Nat.mul_one, Nat.mul_one, show (e1 - e).toNat = (e1 - e0).toNat - (e - e0).toNat by omega, show (e - e1).toNat = (e - e0).toNat - (e1 - e0).toNat by omega]
  exact this
theorem g_fin {f : FP.Core.Fmt} (hf : FP.Core.Good f) {n e : Int} (h : g_ok f n e) : ∃ c q, g_d f n e = .fin (decide (n < 0)) c q ∧ FP.Core.fits f (.fin (decide (n < 0)) c q) ∧ FP.Core.inUnits c q f.qmin = FP.Core.inUnits n.natAbs e f.qmin := by
  obtain ⟨c, q, h1, h2⟩ := FP.Core.round_exact hf (decide (n < 0)) h.1 h.2.1 h.2.2
  exact ⟨c, q, h1, h1 ▸ FP.Core.round_fits hf _, h2⟩
theorem g_signed (n : Int) (k : Nat) : FP.Core.signed (decide (n < 0)) (n.natAbs * k) = n * (k : Int) := by
  rw [FP.Core.signed_mul]
  congr 1
  unfold FP.Core.signed
  by_cases h : n < 0 <;> simp [h] <;> omega
theorem g_zval {f : FP.Core.Fmt} (hf : FP.Core.Good f) {n e : Int} (h : g_ok f n e) : FP.Core.zval f (g_d f n e) = n * ((2 ^ (e - f.qmin).toNat : Nat) : Int) := by
  obtain ⟨c, q, h1, h2, h3⟩ := g_fin hf h
  rw [h1]
  show FP.Core.signed _ (FP.Core.inUnits c q f.qmin) = _
  rw [h3]
  exact g_signed n _
theorem g_nn {f : FP.Core.Fmt} (hf : FP.Core.Good f) {n e : Int} (h : g_ok f n e) : g_d f n e ≠ .nan := by
  obtain ⟨c, q, h1, h2, h3⟩ := g_fin hf h
  rw [h1]
  exact fun z => by cases z
theorem g_fits {f : FP.Core.Fmt} (hf : FP.Core.Good f) (n e : Int) : FP.Core.fits f (g_d f n e) := FP.Core.round_fits hf _
theorem g_sum {f : FP.Core.Fmt} (hf : FP.Core.Good f) {a b e : Int} (ha : g_ok f a e) (hb : g_ok f b e) : FP.Core.round f (FP.Core.exactSum (g_d f a e) (g_d f b e)) = g_d f (a + b) e := by
  obtain ⟨c, q, a1, a2, a3⟩ := g_fin hf ha
  obtain ⟨d, r, b1, b2, b3⟩ := g_fin hf hb
  rw [a1, b1]
  have hq := a2.2.1
  have hr := b2.2.1
  have key : FP.Core.sumUnits (decide (a < 0)) c q (decide (b < 0)) d r (min q r) * ((2 ^ (min q r - f.qmin).toNat : Nat) : Int) = (a + b) * ((2 ^ (e - f.qmin).toNat : Nat) : Int) := by
    unfold FP.Core.sumUnits
    rw [Int.add_mul, ← FP.Core.signed_mul, ← FP.Core.signed_mul, ← FP.Core.inUnits_move c (by omega) (by omega), ← FP.Core.inUnits_move d (by omega) (by omega), a3, b3, Int.add_mul]
    unfold FP.Core.inUnits
    rw [g_signed, g_signed]
  show FP.Core.round f (.fin (FP.Core.sumSign _ _ _) _ _) = _
  generalize FP.Core.sumUnits (decide (a < 0)) c q (decide (b < 0)) d r (min q r) = v at key
  have p1 : (0 : Int) < ((2 ^ (min q r - f.qmin).toNat : Nat) : Int) := by exact_mod_cast Nat.two_pow_pos _
  have p2 : (0 : Int) < ((2 ^ (e - f.qmin).toNat : Nat) : Int) := by exact_mod_cast Nat.two_pow_pos _
  have z0 : v = 0 ↔ a + b = 0 := by
    constructor
    · intro h
      rw [h, Int.zero_mul] at key
      rcases Int.mul_eq_zero.mp key.symm with h | h <;> omega
    · intro h
      rw [h, Int.zero_mul] at key
      rcases Int.mul_eq_zero.mp key with h | h <;> omega
  have z1 : v < 0 ↔ a + b < 0 := by
    constructor
    · intro h
      have := Int.mul_neg_of_neg_of_pos h p1
      rw [key] at this
      exact Int.lt_of_not_ge fun z => by have := Int.mul_nonneg z (Int.le_of_lt p2); omega
    · intro h
      have := Int.mul_neg_of_neg_of_pos h p2
      rw [← key] at this
      exact Int.lt_of_not_ge fun z => by have := Int.mul_nonneg z (Int.le_of_lt p1); omega
  refine g_round (e0 := f.qmin) (by omega) ha.2.1 ?_ ?_
  · unfold FP.Core.sumSign
    by_cases h : v = 0
    · rw [if_pos h]
      have := z0.mp h
      rw [show decide (a + b < 0) = false by simp; omega]
      by_cases h1 : a < 0 <;> by_cases h2 : b < 0 <;> simp [h1, h2] <;> omega
    · rw [if_neg h]
      simp [z1]
  · have := congrArg Int.natAbs key
    rw [Int.natAbs_mul, Int.natAbs_mul, Int.natAbs_natCast, Int.natAbs_natCast] at this
    exact this
theorem g_neg {f : FP.Core.Fmt} {a e : Int} (h : a ≠ 0) : FP.Core.negate (g_d f a e) = g_d f (-a) e := by
  unfold g_d
  rw [FP.Core.negate_round]
  show FP.Core.round f (.fin (!decide (a < 0)) a.natAbs e) = _
  rw [Int.natAbs_neg, show (!decide (a < 0)) = decide (-a < 0) by by_cases q : a < 0 <;> simp [q] <;> omega]
theorem g_prod {f : FP.Core.Fmt} (hf : FP.Core.Good f) {a b e g : Int} (ha : g_ok f a e) (hb : g_ok f b g) (hs : (decide (a < 0) != decide (b < 0)) = decide (a * b < 0)) : FP.Core.round f (FP.Core.exactProduct (g_d f a e) (g_d f b g)) = g_d f (a * b) (e + g) := by
  obtain ⟨c, q, a1, a2, a3⟩ := g_fin hf ha
  obtain ⟨d, r, b1, b2, b3⟩ := g_fin hf hb
  rw [a1, b1]
  have hq := a2.2.1
  have hr := b2.2.1
  have he := ha.2.1
  have hg := hb.2.1
  refine g_round (e0 := 2 * f.qmin) (by omega) (by omega) hs ?_
  have h3 := (FP.Core.product_units a2 b2).2.2
  rw [h3]
  show FP.Core.inUnits c q f.qmin * FP.Core.inUnits d r f.qmin = _
  rw [a3, b3, Int.natAbs_mul]
  unfold FP.Core.inUnits
  rw [show (e + g - 2 * f.qmin).toNat = (e - f.qmin).toNat + (g - f.qmin).toNat by omega, Nat.pow_add, Nat.mul_mul_mul_comm]
theorem g_quot {f : FP.Core.Fmt} (hf : FP.Core.Good f) {a b e g : Int} (ha : g_ok f (a * b) e) (hb : g_ok f b g) (hp : 0 < b) (he : f.qmin ≤ e - g) : FP.Core.quotient f (g_d f (a * b) e) (g_d f b g) = g_d f a (e - g) := by
  obtain ⟨c, q, a1, a2, a3⟩ := g_fin hf ha
  obtain ⟨d, r, b1, b2, b3⟩ := g_fin hf hb
  rw [a1, b1]
  have hq := a2.2.1
  have hr := b2.2.1
  have hb0 : decide (b < 0) = false := by simp; omega
  have hd0 : 0 < d := by
    rcases Nat.eq_zero_or_pos d with h | h
    · rw [h] at b3
      unfold FP.Core.inUnits at b3
      rw [Nat.zero_mul] at b3
      have := b3.symm
      rw [Nat.mul_eq_zero] at this
      have p := Nat.two_pow_pos (g - f.qmin).toNat
      omega
    · exact h
  show (if d = 0 then _ else FP.Core.roundRatio f (_ != _) c d (q - r)) = _
  rw [if_neg (by omega), hb0]
  have hsg : (decide (a * b < 0) != false) = decide (a < 0) := by
    by_cases h : a < 0
    · have := Int.mul_neg_of_neg_of_pos h hp
      simp [h, this]
    · have : 0 ≤ a * b := Int.mul_nonneg (by omega) (by omega)
      simp [h]
      omega
  rw [hsg]
  show _ = FP.Core.roundRatio f _ _ 1 _
  refine FP.Core.roundRatio_congr hd0 (by decide) ?_
  rw [Nat.mul_one]
  unfold FP.Core.inUnits at a3 b3
  rw [Int.natAbs_mul] at a3
  have hx : c * 2 ^ ((q - f.qmin).toNat + (g - f.qmin).toNat) = (a.natAbs * d) * 2 ^ ((r - f.qmin).toNat + (e - f.qmin).toNat) := by
    rw [Nat.pow_add, ← Nat.mul_assoc, a3, Nat.pow_add]
    calc a.natAbs * b.natAbs * 2 ^ (e - f.qmin).toNat * 2 ^ (g - f.qmin).toNat = a.natAbs * (b.natAbs * 2 ^ (g - f.qmin).toNat) * 2 ^ (e - f.qmin).toNat := by ac_rfl
      _ = a.natAbs * (d * 2 ^ (r - f.qmin).toNat) * 2 ^ (e - f.qmin).toNat := by rw [b3]
      _ = a.natAbs * d * (2 ^ (r - f.qmin).toNat * 2 ^ (e - f.qmin).toNat) := by ac_rfl
  have := g_cancel hx
  have h1 := ha.2.1
  have h2 := hb.2.1
  rw [show (q - r - (e - g)).toNat = (q - f.qmin).toNat + (g - f.qmin).toNat - ((r - f.qmin).toNat + (e - f.qmin).toNat) by omega, show (e - g - (q - r)).toNat = (r - f.qmin).toNat + (e - f.qmin).toNat - ((q - f.qmin).toNat + (g - f.qmin).toNat) by omega]
  exact this
theorem g_scale {f : FP.Core.Fmt} {n e : Int} (k : Nat) (h : f.qmin ≤ e) : g_d f (n * ((2 ^ k : Nat) : Int)) e = g_d f n (e + k) := by
  have hp : (0 : Int) < ((2 ^ k : Nat) : Int) := by exact_mod_cast Nat.two_pow_pos k
  refine g_round (e0 := f.qmin) h (by omega) ?_ ?_
  · by_cases q : n < 0
    · have := Int.mul_neg_of_neg_of_pos q hp
      simp only [q, this, decide_true]
    · have : ¬ n * ((2 ^ k : Nat) : Int) < 0 := by have := Int.mul_nonneg (a := n) (by omega) (Int.le_of_lt hp); omega
      simp only [q, this, decide_false]
  · unfold FP.Core.inUnits
    rw [Int.natAbs_mul, Int.natAbs_natCast, show (e + k - f.qmin).toNat = k + (e - f.qmin).toNat by omega, Nat.pow_add, Nat.mul_assoc]
/-- the double n / 4096 -/
def dv (n : Int) : UInt64 := FP.Core.of64 (g_d FP.Core.b64 n (-12))
/-- the float n / 4 -/
def fv (n : Int) : UInt32 := FP.Core.of32 (g_d FP.Core.b32 n (-2))
theorem dv_val (n : Int) : FP.Core.val64 (dv n) = g_d FP.Core.b64 n (-12) := FP.Core.val64_of64 (g_fits FP.Core.good_b64 _ _)
theorem fv_val (n : Int) : FP.Core.val32 (fv n) = g_d FP.Core.b32 n (-2) := FP.Core.val32_of32 (g_fits FP.Core.good_b32 _ _)
def dB (n : Int) : Prop := n.natAbs < 2 ^ 53
def fB (n : Int) : Prop := n.natAbs < 2 ^ 24
theorem dB_ok {n : Int} (e : Int) (h : dB n) (h1 : -1074 ≤ e) (h2 : e ≤ 971) : g_ok FP.Core.b64 n e := ⟨h, h1, h2⟩
theorem fB_ok {n : Int} (e : Int) (h : fB n) (h1 : -149 ≤ e) (h2 : e ≤ 104) : g_ok FP.Core.b32 n e := ⟨h, h1, h2⟩
theorem dv_ok {n : Int} (h : dB n) : g_ok FP.Core.b64 n (-12) := dB_ok _ h (by decide) (by decide)
theorem fv_ok {n : Int} (h : fB n) : g_ok FP.Core.b32 n (-2) := fB_ok _ h (by decide) (by decide)
theorem dv_nn {n : Int} (h : dB n) : FP.Core.val64 (dv n) ≠ .nan := by rw [dv_val]; exact g_nn FP.Core.good_b64 (dv_ok h)
theorem fv_nn {n : Int} (h : fB n) : FP.Core.val32 (fv n) ≠ .nan := by rw [fv_val]; exact g_nn FP.Core.good_b32 (fv_ok h)
theorem dv_nn' (n : Int) : FP.Core.val64 (dv n) ≠ .nan := by rw [dv_val]; exact FP.Core.roundRatio_ne_nan _ _ _ _ _
theorem fv_nn' (n : Int) : FP.Core.val32 (fv n) ≠ .nan := by rw [fv_val]; exact FP.Core.roundRatio_ne_nan _ _ _ _ _
theorem vf_of64 {x : UInt64} (h : FP.Core.val64 x ≠ .nan) : vf_n64 x := by
  have h1 := (FP.Core.ne_nan x).mp h
  unfold vf_n64
  rw [UInt64.le_iff_toNat_le, UInt64.toNat_and]
  rw [show (0x7fffffffffffffff : UInt64).toNat = 2 ^ 63 - 1 from rfl, Nat.and_two_pow_sub_one_eq_mod]
  exact h1
theorem dv_n (n : Int) : vf_n64 (dv n) := vf_of64 (dv_nn' n)
theorem dv_add {a b : Int} (ha : dB a) (hb : dB b) : FP.dadd (dv a) (dv b) = dv (a + b) := by
  have h : FP.Core.val64 (dv (a + b)) = FP.Core.val64 (FP.Core.dadd (dv a) (dv b)) := by
    rw [FP.Core.val64_dadd, dv_val, dv_val, dv_val, g_sum FP.Core.good_b64 (dv_ok ha) (dv_ok hb)]
  exact (FP.Core.val64_inj (dv_nn' _) h).symm
theorem dv_sub {a b : Int} (ha : dB a) (hb : dB b) : FP.dsub (dv a) (dv b) = dv (a - b) := by
  by_cases h0 : b = 0
  · subst h0
    show FP.Core.dsub (dv a) (dv 0) = _
    rw [FP.Core.dsub_eq, show FP.Core.dneg (dv 0) = FP.Core.dzeroNeg by decide +kernel, FP.Core.dadd_zeroNeg (dv_nn' a), Int.sub_zero]
  · have h : FP.Core.val64 (dv (a - b)) = FP.Core.val64 (FP.Core.dsub (dv a) (dv b)) := by
      rw [FP.Core.val64_dsub, dv_val, dv_val, dv_val, g_neg h0, g_sum FP.Core.good_b64 (dv_ok ha) (dv_ok (show dB (-b) by unfold dB at hb ⊢; omega)), Int.sub_eq_add_neg]
    exact (FP.Core.val64_inj (dv_nn' _) h).symm
theorem dv_mul {a b c : Int} (ha : dB a) (hb : dB b) (hs : (decide (a < 0) != decide (b < 0)) = decide (a * b < 0)) (hc : a * b = c * 4096) : FP.dmul (dv a) (dv b) = dv c := by
  have h : FP.Core.val64 (dv c) = FP.Core.val64 (FP.Core.dmul (dv a) (dv b)) := by
    rw [FP.Core.val64_dmul, dv_val, dv_val, dv_val, g_prod FP.Core.good_b64 (dv_ok ha) (dv_ok hb) hs, hc]
    have h2 : g_d FP.Core.b64 (c * ((2 ^ 12 : Nat) : Int)) (-24) = g_d FP.Core.b64 c (-24 + ((12 : Nat) : Int)) := g_scale (n := c) (e := -24) 12 (by decide)
    rw [show ((2 ^ 12 : Nat) : Int) = 4096 by decide, show (-24 + ((12 : Nat) : Int)) = -12 by decide] at h2
    rw [show (-12 + -12 : Int) = -24 by decide]
    exact h2.symm
  exact (FP.Core.val64_inj (dv_nn' _) h).symm
theorem dv_mul' {a b c : Int} (ha : dB a) (hb : dB b) (h1 : 0 ≤ a) (h2 : 0 ≤ b) (hc : a * b = c * 4096) : FP.dmul (dv a) (dv b) = dv c := by
  refine dv_mul ha hb ?_ hc
  have := Int.mul_nonneg h1 h2
  rw [show decide (a < 0) = false by simp; omega, show decide (b < 0) = false by simp; omega, show decide (a * b < 0) = false by simp; omega]
  rfl
/-- a whole number as a double -/
theorem i2d_val (x : Int32) : FP.Core.val64 (FP.i2d x) = g_d FP.Core.b64 x.toInt 0 := FP.Core.val64_i2d x
theorem i2d_dv (x : Int32) : FP.i2d x = dv (x.toInt * 4096) := by
  have h : FP.Core.val64 (dv (x.toInt * 4096)) = FP.Core.val64 (FP.i2d x) := by
    rw [i2d_val, dv_val]
    exact g_scale 12 (by decide)
  exact (FP.Core.val64_inj (dv_nn' _) h).symm
theorem dv_div {a : Int} {x : Int32} (ha : dB (a * x.toInt)) (hx : 0 < x.toInt) : FP.ddiv (dv (a * x.toInt)) (FP.i2d x) = dv a := by
  have hb : dB x.toInt := by
    have := x.toInt_lt
    have := x.le_toInt
    unfold dB
    omega
  have h : FP.Core.val64 (dv a) = FP.Core.val64 (FP.Core.ddiv (dv (a * x.toInt)) (FP.Core.i2d x)) := by
    rw [FP.Core.val64_ddiv, dv_val, dv_val, show FP.Core.val64 (FP.Core.i2d x) = g_d FP.Core.b64 x.toInt 0 from i2d_val x]
    exact (g_quot FP.Core.good_b64 (dv_ok ha) (dB_ok 0 hb (by decide) (by decide)) hx (by decide)).symm
  exact (FP.Core.val64_inj (dv_nn' _) h).symm
theorem fv_add {a b : Int} (ha : fB a) (hb : fB b) : FP.fadd (fv a) (fv b) = fv (a + b) := by
  have h : FP.Core.val32 (fv (a + b)) = FP.Core.val32 (FP.Core.fadd (fv a) (fv b)) := by
    rw [FP.Core.val32_fadd, fv_val, fv_val, fv_val, g_sum FP.Core.good_b32 (fv_ok ha) (fv_ok hb)]
  exact (FP.Core.val32_inj (fv_nn' _) h).symm
theorem vf_of32 {x : UInt32} (h : FP.Core.val32 x ≠ .nan) : vf_n32 x := by
  have h1 := (FP.Core.ne_nan32 x).mp h
  unfold vf_n32
  rw [UInt32.le_iff_toNat_le, UInt32.toNat_and]
  rw [show (0x7fffffff : UInt32).toNat = 2 ^ 31 - 1 from rfl, Nat.and_two_pow_sub_one_eq_mod]
  exact h1
theorem fv_n (n : Int) : vf_n32 (fv n) := vf_of32 (fv_nn' n)
/-- quarters, and halves of a whole number, as floats -/
theorem fv_quarters (x : Int32) (hx : fB x.toInt) (h0 : 0 ≤ x.toInt) : FP.fmul (FP.i2f x) 1048576000 = fv x.toInt := by
  have hq : FP.Core.val32 (1048576000 : UInt32) = g_d FP.Core.b32 1 (-2) := by decide +kernel
  have h : FP.Core.val32 (fv x.toInt) = FP.Core.val32 (FP.Core.fmul (FP.Core.i2f x) 1048576000) := by
    rw [FP.Core.val32_fmul, hq, show FP.Core.val32 (FP.Core.i2f x) = g_d FP.Core.b32 x.toInt 0 from FP.Core.val32_i2f x, g_prod FP.Core.good_b32 (fB_ok 0 hx (by decide) (by decide)) (fB_ok (-2) (show fB 1 by unfold fB; decide) (by decide) (by decide)) (by rw [show decide (x.toInt < 0) = false by simp; omega, show decide (x.toInt * 1 < 0) = false by simp; omega]; rfl), fv_val, Int.mul_one]
    rfl
  exact (FP.Core.val32_inj (fv_nn' _) h).symm
theorem fv_halves (x : Int32) (hx : fB x.toInt) (h0 : 0 ≤ x.toInt) : FP.fmul 1056964608 (FP.i2f x) = fv (x.toInt * 2) := by
  have hq : FP.Core.val32 (1056964608 : UInt32) = g_d FP.Core.b32 1 (-1) := by decide +kernel
  have h : FP.Core.val32 (fv (x.toInt * 2)) = FP.Core.val32 (FP.Core.fmul 1056964608 (FP.Core.i2f x)) := by
    rw [FP.Core.val32_fmul, hq, show FP.Core.val32 (FP.Core.i2f x) = g_d FP.Core.b32 x.toInt 0 from FP.Core.val32_i2f x, g_prod FP.Core.good_b32 (fB_ok (-1) (show fB 1 by unfold fB; decide) (by decide) (by decide)) (fB_ok 0 hx (by decide) (by decide)) (by rw [show decide (x.toInt < 0) = false by simp; omega, show decide (1 * x.toInt < 0) = false by simp; omega]; rfl), fv_val, Int.one_mul]
    exact g_scale 1 (by decide)
  exact (FP.Core.val32_inj (fv_nn' _) h).symm
/-- a float as a double -/
theorem f2d_dv {n : Int} (hn : fB n) : FP.f2d (fv n) = dv (n * 1024) := by
  have hnn : FP.Core.fIsNaN (fv n) = false := by
    rw [show FP.Core.fIsNaN (fv n) = decide (FP.Core.val32 (fv n) = .nan) from rfl]
    exact decide_eq_false (fv_nn' n)
  have h : FP.Core.val64 (dv (n * 1024)) = FP.Core.val64 (FP.Core.f2d (fv n)) := by
    rw [FP.Core.val64_f2d, fv_val, dv_val]
    obtain ⟨c, q, h1, h2, h3⟩ := g_fin FP.Core.good_b32 (fv_ok hn)
    rw [h1]
    have h4 := h2.2.1
    rw [show g_d FP.Core.b64 (n * 1024) (-12) = g_d FP.Core.b64 n (-2) from g_scale 10 (by decide)]
    exact (g_round (e0 := FP.Core.b32.qmin) h4 (by decide) rfl h3).symm
  unfold FP.f2d
  rw [hnn]
  exact (FP.Core.val64_inj (dv_nn' _) h).symm
theorem dv_0 : FP.dconst0 = dv 0 := by decide +kernel
theorem dv_1 : FP.dconst1 = dv 4096 := by decide +kernel
theorem fv_1 : FP.fconst1 = fv 4 := by decide +kernel
theorem fv_2 : FP.fconst2 = fv 8 := by decide +kernel
theorem dv_cmp {a b : Int} (ha : dB a) (hb : dB b) : FP.dcmp (dv a) (dv b) = some (compare a b) := by
  show FP.Core.order (FP.Core.val64 (dv a)) (FP.Core.val64 (dv b)) = _
  rw [FP.Core.order_zval FP.Core.good_b64 (FP.Core.val64_fits _) (FP.Core.val64_fits _) (dv_nn ha) (dv_nn hb), dv_val, dv_val, g_zval FP.Core.good_b64 (dv_ok ha), g_zval FP.Core.good_b64 (dv_ok hb), FP.Core.compare_mul_pos _ _ _ (by exact_mod_cast Nat.two_pow_pos _)]
