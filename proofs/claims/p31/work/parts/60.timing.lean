/-! Timing: the leaves; the timing j, at 5 * j + 49, in the corner c, whose factors are kl and ke eighths -/
def xT (j : Nat) : Nat := if j = 0 then 46 else 43
theorem delT_x (j : Nat) : delT j = xT j + 1 := by unfold delT xT; split <;> rfl
theorem xT_x (j : Nat) : xT j = 43 ∨ xT j = 46 := by unfold xT; split <;> simp
theorem isLateT_b (j : Nat) : isLateT j = 0 ∨ isLateT j = 1 := by unfold isLateT; split <;> (try split) <;> simp
def dE (p : Int) (e : Nat) : Int := if e = 0 then 32 * p else 24 * p
/-- 1 / 4096 of what an edge takes, late or early -/
def mDl (j kl ke : Nat) (p : Int) (e : Nat) : Int := (if isLateT j = 0 then (ke : Int) else (kl : Int)) * (if e = 0 then 4 * p else 3 * p)
theorem mDl_r {j kl ke e : Nat} {p : Int} (h1 : kl ≤ 16) (h2 : ke ≤ 16) (h3 : 0 ≤ p) (h4 : p ≤ 17000) : 0 ≤ mDl j kl ke p e ∧ mDl j kl ke p e ≤ 1088000 := by
  unfold mDl
  have key : ∀ a b : Int, 0 ≤ a → a ≤ 16 → 0 ≤ b → b ≤ 68000 → 0 ≤ a * b ∧ a * b ≤ 1088000 := fun a b x1 x2 x3 x4 => ⟨Int.mul_nonneg x1 x3, by
    have := Int.mul_le_mul x2 x4 x3 (by omega : (0 : Int) ≤ 16)
    omega⟩
  refine key _ _ ?_ ?_ ?_ ?_ <;> split <;> omega
section T1
variable {l : Launch} {D : va_G} {ad : Nat → Nat} {tc : Nat → ClassId} {L : Nat} {xs : Nat → Int32} {M : j_M} {d lo pc : Nat} {lv : j_L} {st : List Value} {h h' : j_H} {r : Option Value}
theorem rn_topr {x y : Nat} (e : x = y) (k : Rn l D ad tc L xs M d lo pc lv (.ref y :: st) h r h') : Rn l D ad tc L xs M d lo pc lv (.ref x :: st) h r h' := e ▸ k
end T1
section T2
variable {l : Launch} {D : va_G} {ad : Nat → Nat} {tc : Nat → ClassId} {L : Nat} {xs : Nat → Int32} {S : jS} {E : List j_C} {sl x : Nat}
set_option maxRecDepth 20000 in
theorem c_X4_ofEdge {i e : Nat} {p : Int} (HX : x = 43 ∨ x = 46) (hi : i < 16) (he : e ≤ 1) (hr : sD S (x + 2) i = dv (32 * p)) (hp : 0 ≤ p) (hp2 : p ≤ 17000) : Cn l D ad tc L xs mX4_ofEdge 0 0 [.ref (x + 1), .int (nI i), .int (nI e)] (wd S E, sl) (some (.double (dv (dE p e)))) (wd S E, sl) := by
  refine cn_of (lv0 := [(0, .ref (x + 1)), (1, .int (nI i)), (2, .int (nI e))]) (by decide +kernel) rfl (fun _ => by simp [lg_sl, j_v, Value.category]) (fun _ => rfl) ?_
  refine rn_iload_n dX4_ofEdge_0 rfl ?_
  refine rn_if_ne (tgt := 13) dX4_ofEdge_1 rfl (fun q1 => ?_) (fun q1 => ?_)
  · have e1 : ¬ e = 0 := fun z => q1 (by rw [z]; rfl)
    have e2 : e = 1 := by omega
    subst e2
    refine rn_dcon (n := 0) (m := 3072) dX4_ofEdge_13 wd_197 (by decide +kernel) ?_
    refine rn_aload_n dX4_ofEdge_16 rfl ?_
    refine rn_getfield dX4_ofEdge_17 fo_X4_15 (h_del HX) rfl ?_
    refine rn_iload_n dX4_ofEdge_20 rfl ?_
    refine rn_daload dX4_ofEdge_21 (h_rises HX) rfl (vp_in_nI (by omega) (by decide)) ?_
    rw [nI_clamp (by omega)]
    rw [hr]
    refine rn_dmulv (c := 24 * p) dX4_ofEdge_22 (dB_of (by omega) (by omega)) (dB_of (by omega) (by omega)) (by omega) (by omega) (by omega) ?_
    exact rn_ret dX4_ofEdge_23 trivial rfl
  · have e0 : e = 0 := (nI_eq (b := 0) (by omega) (by decide)).mp q1
    subst e0
    refine rn_aload_n dX4_ofEdge_4 rfl ?_
    refine rn_getfield dX4_ofEdge_5 fo_X4_15 (h_del HX) rfl ?_
    refine rn_iload_n dX4_ofEdge_8 rfl ?_
    refine rn_daload dX4_ofEdge_9 (h_rises HX) rfl (vp_in_nI (by omega) (by decide)) ?_
    rw [nI_clamp (by omega)]
    rw [hr]
    refine rn_goto (tgt := 23) dX4_ofEdge_10 rfl ?_
    exact rn_ret dX4_ofEdge_23 trivial rfl
set_option maxRecDepth 20000 in
theorem c_X5_lag {i a b : Nat} (hi : i < 16) (hv : sV S i < 4) (ha : sI S (sV S i + 6) 1 = nI a) (hb : sI S (i + 13) 7 = nI b) (ha1 : a ≤ 100) (hb1 : b ≤ 20) : Cn l D ad tc L xs mX5_lag 0 0 [.ref (i + 14)] (wd S E, sl) (some (.double (dv (1024 * (a + b : Nat))))) (wd S E, sl) := by
  refine cn_of (lv0 := [(0, .ref (i + 14))]) (by decide +kernel) rfl (fun _ => by simp [lg_sl, j_v, Value.category]) (fun _ => rfl) ?_
  refine rn_aload_n dX5_lag_0 rfl ?_
  refine rn_getfield dX5_lag_1 fo_X5_28 (h_node (by omega)) rfl ?_
  refine rn_getfield dX5_lag_4 fo_X5_35 (h_clock (by omega)) rfl ?_
  rw [ha]
  refine rn_aload_n dX5_lag_7 rfl ?_
  refine rn_getfield dX5_lag_8 fo_X5_40 (h_node (by omega)) rfl ?_
  rw [hb]
  refine rn_iadd dX5_lag_11 ?_
  refine rn_topi (nI_add _ _) ?_
  refine rn_i2dv dX5_lag_12 ?_
  rw [nI_toInt (by omega)]
  refine rn_dcon (n := 0) (m := 1024) dX5_lag_13 wd_208 (by decide +kernel) ?_
  refine rn_dmulv (c := 1024 * (a + b : Nat)) dX5_lag_16 (dB_of (by omega) (by omega)) (dB_of (by omega) (by omega)) (by omega) (by omega) (by omega) ?_
  exact rn_ret dX5_lag_17 trivial rfl
set_option maxRecDepth 20000 in
theorem c_X8_delayOf {j i e c kl ke : Nat} {p : Int} (hj : j < 7) (hi : i < 16) (he : e ≤ 1) (hc : c < 3) (hkl : sD S (c + 10) 0 = dv (512 * kl)) (hke : sD S (c + 10) 1 = dv (512 * ke)) (hl1 : kl ≤ 16) (hk1 : ke ≤ 16) (hr : sD S (xT j + 2) i = dv (32 * p)) (hp : 0 ≤ p) (hp2 : p ≤ 17000) : Cn l D ad tc L xs mX8_delayOf 1 22 [.ref (5 * j + 50), .int (nI i), .int (nI e), .ref (c + 11)] (wd S E, sl) (some (.double (dv (mDl j kl ke p e)))) (wd S E, sl) := by
  refine cn_of (lv0 := [(0, .ref (5 * j + 50)), (1, .int (nI i)), (2, .int (nI e)), (3, .ref (c + 11))]) (by decide +kernel) rfl (fun _ => by simp [lg_sl, j_v, Value.category]) (fun _ => rfl) ?_
  have hdE0 : 0 ≤ dE p e := by unfold dE; split <;> omega
  have hdE : dB (dE p e) := by unfold dE; split <;> exact dB_of (by omega) (by omega)
  refine rn_aload_n dX8_delayOf_0 rfl ?_
  refine rn_getfield dX8_delayOf_1 fo_X8_36 (h_tim (by omega)) rfl ?_
  refine rn_if_eq (tgt := 14) dX8_delayOf_4 rfl (fun q1 => ?_) (fun q1 => ?_)
  · have hM : (512 * (ke : Int)) * dE p e = mDl j kl ke p e * 4096 := by unfold mDl dE; rw [if_pos q1]; split <;> grind
    refine rn_aload_n dX8_delayOf_14 rfl ?_
    refine rn_getfield dX8_delayOf_15 fo_X8_81 (h_corner (by omega)) rfl ?_
    refine rn_topd hke ?_
    refine rn_aload_n dX8_delayOf_18 rfl ?_
    refine rn_getfield dX8_delayOf_19 fo_X8_32 (h_tim (by omega)) rfl ?_
    refine rn_topr (delT_x j) ?_
    refine rn_iload_n dX8_delayOf_22 rfl ?_
    refine rn_iload_n dX8_delayOf_23 rfl ?_
    refine rn_callV dX8_delayOf_24 cv_X8_84 (c_X4_ofEdge (xT_x j) hi he hr hp hp2) rfl (h_del (xT_x j)) rfl rfl (by decide) (by decide) rfl (Nat.le_of_ble_eq_true rfl) ?_
    refine rn_dmulv (c := mDl j kl ke p e) dX8_delayOf_27 (dB_of (by omega) (by omega)) hdE (by omega) hdE0 hM ?_
    exact rn_ret dX8_delayOf_28 trivial rfl
  · have hM : (512 * (kl : Int)) * dE p e = mDl j kl ke p e * 4096 := by unfold mDl dE; rw [if_neg q1]; split <;> grind
    refine rn_aload_n dX8_delayOf_7 rfl ?_
    refine rn_getfield dX8_delayOf_8 fo_X8_75 (h_corner (by omega)) rfl ?_
    refine rn_topd hkl ?_
    refine rn_goto (tgt := 18) dX8_delayOf_11 rfl ?_
    refine rn_aload_n dX8_delayOf_18 rfl ?_
    refine rn_getfield dX8_delayOf_19 fo_X8_32 (h_tim (by omega)) rfl ?_
    refine rn_topr (delT_x j) ?_
    refine rn_iload_n dX8_delayOf_22 rfl ?_
    refine rn_iload_n dX8_delayOf_23 rfl ?_
    refine rn_callV dX8_delayOf_24 cv_X8_84 (c_X4_ofEdge (xT_x j) hi he hr hp hp2) rfl (h_del (xT_x j)) rfl rfl (by decide) (by decide) rfl (Nat.le_of_ble_eq_true rfl) ?_
    refine rn_dmulv (c := mDl j kl ke p e) dX8_delayOf_27 (dB_of (by omega) (by omega)) hdE (by omega) hdE0 hM ?_
    exact rn_ret dX8_delayOf_28 trivial rfl
set_option maxRecDepth 20000 in
theorem c_X8_beats {j s a b : Nat} {p q : Int} (hj : j < 7) (hs : s < 16) (ha : a < 32) (hb : b < 32) (hpa : sD S (5 * j + 50) (s * 32 + a) = dv p) (hqb : sD S (5 * j + 50) (s * 32 + b) = dv q) (hp : dB p) (hq : dB q) : Cn l D ad tc L xs mX8_beats 0 0 [.ref (5 * j + 50), .int (nI s), .int (nI a), .int (nI b)] (wd S E, sl) (some (.int (bI (decide (if isLateT j = 0 then p < q else q < p))))) (wd S E, sl) := by
  refine cn_of (lv0 := [(0, .ref (5 * j + 50)), (1, .int (nI s)), (2, .int (nI a)), (3, .int (nI b))]) (by decide +kernel) ⟨_, rfl, bI_nar _⟩ (fun _ => by simp [lg_sl, j_v, Value.category]) (fun _ => rfl) ?_
  refine rn_aload_n dX8_beats_0 rfl ?_
  refine rn_getfield dX8_beats_1 fo_X8_9 (h_tim (by omega)) rfl ?_
  refine rn_iload_n dX8_beats_4 rfl ?_
  refine rn_bipush (v := nI 32) dX8_beats_5 (by decide) ?_
  refine rn_imul dX8_beats_7 ?_
  refine rn_topi (nI_mul _ _) ?_
  refine rn_iload_n dX8_beats_8 rfl ?_
  refine rn_iadd dX8_beats_9 ?_
  refine rn_topi (nI_add _ _) ?_
  refine rn_daload dX8_beats_10 (h_arr (by omega)) rfl (vp_in_nI (by omega) (by decide)) ?_
  rw [nI_clamp (by omega)]
  rw [hpa]
  refine rn_dstore dX8_beats_11 (by decide) rfl ?_
  refine rn_aload_n dX8_beats_13 rfl ?_
  refine rn_getfield dX8_beats_14 fo_X8_9 (h_tim (by omega)) rfl ?_
  refine rn_iload_n dX8_beats_17 rfl ?_
  refine rn_bipush (v := nI 32) dX8_beats_18 (by decide) ?_
  refine rn_imul dX8_beats_20 ?_
  refine rn_topi (nI_mul _ _) ?_
  refine rn_iload_n dX8_beats_21 rfl ?_
  refine rn_iadd dX8_beats_22 ?_
  refine rn_topi (nI_add _ _) ?_
  refine rn_daload dX8_beats_23 (h_arr (by omega)) rfl (vp_in_nI (by omega) (by decide)) ?_
  rw [nI_clamp (by omega)]
  rw [hqb]
  refine rn_dstore dX8_beats_24 (by decide) rfl ?_
  refine rn_aload_n dX8_beats_26 rfl ?_
  refine rn_getfield dX8_beats_27 fo_X8_36 (h_tim (by omega)) rfl ?_
  refine rn_if_eq (tgt := 49) dX8_beats_30 rfl (fun q1 => ?_) (fun q1 => ?_)
  · refine rn_dload dX8_beats_49 rfl ?_
    refine rn_dload dX8_beats_51 rfl ?_
    refine rn_dcmpv dX8_beats_53 hp hq ?_
    refine rn_if_ge (tgt := 61) dX8_beats_54 rfl (fun q2 => ?_) (fun q2 => ?_)
    · replace q2 : ¬ p < q := fun z => absurd (cmpI_lt.mpr z) (Int32.not_lt.mpr q2)
      refine rn_iconst (v := 0) dX8_beats_61 rfl ?_
      exact rn_ret dX8_beats_62 trivial (by simp_all [bI])
    · replace q2 : p < q := cmpI_lt.mp (Int32.not_le.mp q2)
      refine rn_iconst (v := 1) dX8_beats_57 rfl ?_
      refine rn_goto (tgt := 62) dX8_beats_58 rfl ?_
      exact rn_ret dX8_beats_62 trivial (by simp_all [bI])
  · refine rn_dload dX8_beats_33 rfl ?_
    refine rn_dload dX8_beats_35 rfl ?_
    refine rn_dcmpv dX8_beats_37 hp hq ?_
    refine rn_if_le (tgt := 45) dX8_beats_38 rfl (fun q3 => ?_) (fun q3 => ?_)
    · replace q3 : ¬ q < p := fun z => absurd (cmpI_gt.mpr z) (Int32.not_lt.mpr q3)
      refine rn_iconst (v := 0) dX8_beats_45 rfl ?_
      refine rn_goto (tgt := 62) dX8_beats_46 rfl ?_
      exact rn_ret dX8_beats_62 trivial (by simp_all [bI])
    · replace q3 : q < p := cmpI_gt.mp (Int32.not_le.mp q3)
      refine rn_iconst (v := 1) dX8_beats_41 rfl ?_
      refine rn_goto (tgt := 62) dX8_beats_42 rfl ?_
      exact rn_ret dX8_beats_62 trivial (by simp_all [bI])
def mCr (kl ke a b : Nat) (same : Bool) : Int := if same = true then 128 * (((kl : Int) - ke) * (min a b : Nat)) else 0
theorem mCr_r {kl ke a b : Nat} {same : Bool} (h1 : kl ≤ 16) (h2 : ke ≤ kl) (h3 : a ≤ 100) : 0 ≤ mCr kl ke a b same ∧ mCr kl ke a b same ≤ 204800 := by
  unfold mCr
  split
  · have x1 : (0 : Int) ≤ (kl : Int) - ke := by omega
    have x2 : (kl : Int) - ke ≤ 16 := by omega
    have x3 : (0 : Int) ≤ ((min a b : Nat) : Int) := by omega
    have x4 : ((min a b : Nat) : Int) ≤ 100 := by omega
    have y1 := Int.mul_nonneg x1 x3
    have y2 := Int.mul_le_mul x2 x4 x3 (by omega : (0 : Int) ≤ 16)
    omega
  · omega
set_option maxRecDepth 20000 in
theorem c_X8_credit {u v c a b kl ke : Nat} (hu : u < 4) (hv : v < 4) (hc : c < 3) (ha : sI S (u + 6) 1 = nI a) (hb : sI S (v + 6) 1 = nI b) (ha1 : a ≤ 100) (hb1 : b ≤ 100) (hkl : sD S (c + 10) 0 = dv (512 * kl)) (hke : sD S (c + 10) 1 = dv (512 * ke)) (hl1 : kl ≤ 16) (hk1 : ke ≤ kl) : Cn l D ad tc L xs mX8_credit 0 0 [.ref (u + 7), .ref (v + 7), .ref (c + 11)] (wd S E, sl) (some (.double (dv (mCr kl ke a b (decide (sI S (u + 6) 4 = sI S (v + 6) 4)))))) (wd S E, sl) := by
  refine cn_of (lv0 := [(0, .ref (u + 7)), (1, .ref (v + 7)), (2, .ref (c + 11))]) (by decide +kernel) rfl (fun _ => by simp [lg_sl, j_v, Value.category]) (fun _ => rfl) ?_
  refine rn_aload_n dX8_credit_0 rfl ?_
  refine rn_getfield dX8_credit_1 fo_X8_166 (h_clock (by omega)) rfl ?_
  refine rn_aload_n dX8_credit_4 rfl ?_
  refine rn_getfield dX8_credit_5 fo_X8_166 (h_clock (by omega)) rfl ?_
  refine rn_icmp_eq (tgt := 13) dX8_credit_8 rfl (fun q1 => ?_) (fun q1 => ?_)
  · refine rn_aload_n dX8_credit_13 rfl ?_
    refine rn_getfield dX8_credit_14 fo_X8_169 (h_clock (by omega)) rfl ?_
    rw [ha]
    refine rn_aload_n dX8_credit_17 rfl ?_
    refine rn_getfield dX8_credit_18 fo_X8_169 (h_clock (by omega)) rfl ?_
    rw [hb]
    refine rn_icmp_gt (tgt := 31) dX8_credit_21 rfl (fun q2 => ?_) (fun q2 => ?_)
    · replace q2 : b < a := (nI_ltI (by omega) (by omega)).mp q2
      refine rn_aload_n dX8_credit_31 rfl ?_
      refine rn_getfield dX8_credit_32 fo_X8_169 (h_clock (by omega)) rfl ?_
      refine rn_topi (y := nI (min a b)) (by rw [hb, show min a b = b by omega]) ?_
      refine rn_istore_n dX8_credit_35 (by decide) rfl ?_
      refine rn_aload_n dX8_credit_36 rfl ?_
      refine rn_getfield dX8_credit_37 fo_X8_75 (h_corner (by omega)) rfl ?_
      refine rn_topd hkl ?_
      refine rn_aload_n dX8_credit_40 rfl ?_
      refine rn_getfield dX8_credit_41 fo_X8_81 (h_corner (by omega)) rfl ?_
      refine rn_topd hke ?_
      refine rn_dsubv dX8_credit_44 (dB_of (by omega) (by omega)) (dB_of (by omega) (by omega)) ?_
      refine rn_iload_n dX8_credit_45 rfl ?_
      refine rn_i2dv dX8_credit_46 ?_
      rw [nI_toInt (by omega)]
      refine rn_dcon (n := 0) (m := 1024) dX8_credit_47 wd_350 (by decide +kernel) ?_
      refine rn_dmulv (c := 1024 * (min a b : Nat)) dX8_credit_50 (dB_of (by omega) (by omega)) (dB_of (by omega) (by omega)) (by omega) (by omega) (by omega) ?_
      refine rn_dmulv (c := 128 * (((kl : Int) - ke) * (min a b : Nat))) dX8_credit_51 (dB_of (by omega) (by omega)) (dB_of (by omega) (by omega)) (by omega) (by omega) (by grind) ?_
      exact rn_ret dX8_credit_52 trivial (by unfold mCr; rw [if_pos (by simpa using q1)]; rfl)
    · replace q2 : ¬ b < a := fun z => q2 ((nI_ltI (by omega) (by omega)).mpr z)
      refine rn_aload_n dX8_credit_24 rfl ?_
      refine rn_getfield dX8_credit_25 fo_X8_169 (h_clock (by omega)) rfl ?_
      refine rn_goto (tgt := 35) dX8_credit_28 rfl ?_
      refine rn_topi (y := nI (min a b)) (by rw [ha, show min a b = a by omega]) ?_
      refine rn_istore_n dX8_credit_35 (by decide) rfl ?_
      refine rn_aload_n dX8_credit_36 rfl ?_
      refine rn_getfield dX8_credit_37 fo_X8_75 (h_corner (by omega)) rfl ?_
      refine rn_topd hkl ?_
      refine rn_aload_n dX8_credit_40 rfl ?_
      refine rn_getfield dX8_credit_41 fo_X8_81 (h_corner (by omega)) rfl ?_
      refine rn_topd hke ?_
      refine rn_dsubv dX8_credit_44 (dB_of (by omega) (by omega)) (dB_of (by omega) (by omega)) ?_
      refine rn_iload_n dX8_credit_45 rfl ?_
      refine rn_i2dv dX8_credit_46 ?_
      rw [nI_toInt (by omega)]
      refine rn_dcon (n := 0) (m := 1024) dX8_credit_47 wd_350 (by decide +kernel) ?_
      refine rn_dmulv (c := 1024 * (min a b : Nat)) dX8_credit_50 (dB_of (by omega) (by omega)) (dB_of (by omega) (by omega)) (by omega) (by omega) (by omega) ?_
      refine rn_dmulv (c := 128 * (((kl : Int) - ke) * (min a b : Nat))) dX8_credit_51 (dB_of (by omega) (by omega)) (dB_of (by omega) (by omega)) (by omega) (by omega) (by grind) ?_
      exact rn_ret dX8_credit_52 trivial (by unfold mCr; rw [if_pos (by simpa using q1)]; rfl)
  · refine rn_dcon0 dX8_credit_11 ?_
    exact rn_ret dX8_credit_12 trivial (by unfold mCr; rw [if_neg (by simpa using q1)]; rfl)
end T2
