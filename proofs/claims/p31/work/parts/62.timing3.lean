/-! Timing: what is left, before a latch lends -/
def xq (lg k : Nat) : Int := (lg : Int) * k
theorem xq_r {lg k : Nat} (h1 : lg ≤ 120) (h2 : k ≤ 16) : 0 ≤ xq lg k ∧ xq lg k ≤ 1920 := by
  unfold xq
  have y1 := Int.mul_nonneg (a := (lg : Int)) (b := (k : Int)) (by omega) (by omega)
  have y2 := Int.mul_le_mul (a := (lg : Int)) (b := (k : Int)) (c := 120) (d := 16) (by omega) (by omega) (by omega) (by omega)
  omega
def lfLate (isOut : Bool) (gp un lgs lge kl ke : Nat) (cr p0 p1 : Int) : Int := gp * 4096 - 1024 * un - (if isOut = true then 0 else 4096) + 128 * xq lge ke - 128 * xq lgs kl + cr - max p0 p1
def lfEarly (isOut : Bool) (un lgs lge kl ke : Nat) (cr p0 p1 : Int) : Int := min p0 p1 + 128 * xq lgs ke - 128 * xq lge kl - 1024 * un - (if isOut = true then 0 else 2048) + cr
section T4
variable {l : Launch} {D : va_G} {ad : Nat → Nat} {tc : Nat → ClassId} {L : Nat} {xs : Nat → Int32} {S : jS} {E : List j_C} {sl x : Nat}
set_option maxRecDepth 20000 in
theorem c_X8_leftForLate {gp j s e c kl ke la sa lb sb un a : Nat} {p0 p1 : Int} (hj : j < 7) (hs : s < 16) (he : e < 16) (hc : c < 3) (hv : ∀ i, i < 16 → sV S i < 4) (hkl : sD S (c + 10) 0 = dv (512 * kl)) (hke : sD S (c + 10) 1 = dv (512 * ke)) (hl1 : kl ≤ 16) (hk1 : ke ≤ kl) (hla : sI S (sV S s + 6) 1 = nI la) (hlb : sI S (sV S e + 6) 1 = nI lb) (hsa : sI S (s + 13) 7 = nI sa) (hsb : sI S (e + 13) 7 = nI sb) (hun : sI S (sV S e + 6) 2 = nI un) (h1 : la ≤ 100) (h2 : lb ≤ 100) (h3 : sa ≤ 20) (h4 : sb ≤ 20) (h5 : un ≤ 20) (ha : a < 16) (hfe : fe1 S e = nI a) (hp0 : sD S (5 * j + 50) (s * 32 + a * 2 + 0) = dv p0) (hp1 : sD S (5 * j + 50) (s * 32 + a * 2 + 1) = dv p1) (q0 : 0 ≤ p0) (q00 : p0 ≤ 100000000) (q1' : 0 ≤ p1) (q11 : p1 ≤ 100000000) (hgp : sA S 42 (s * 16 + e) = nI gp) (h6 : gp ≤ 1000) : Cn l D ad tc L xs mX8_leftForLate 1 23 [.ref (5 * j + 50), .int (nI s), .int (nI e), .ref (c + 11)] (wd S E, sl) (some (.double (dv (lfLate (decide (kd S e = 8)) gp un (la + sa) (lb + sb) kl ke (mCr kl ke la lb (decide (sI S (sV S s + 6) 4 = sI S (sV S e + 6) 4))) p0 p1)))) (wd S E, sl) := by
  refine cn_of (lv0 := [(0, .ref (5 * j + 50)), (1, .int (nI s)), (2, .int (nI e)), (3, .ref (c + 11))]) (by decide +kernel) rfl (fun _ => by simp [lg_sl, j_v, Value.category]) (fun _ => rfl) ?_
  have hvs := hv s hs
  have hve := hv e he
  have x1 := xq_r (lg := la + sa) (k := ke) (by omega) (by omega)
  have x2 := xq_r (lg := la + sa) (k := kl) (by omega) (by omega)
  have x3 := xq_r (lg := lb + sb) (k := ke) (by omega) (by omega)
  have x4 := xq_r (lg := lb + sb) (k := kl) (by omega) (by omega)
  have x5 := mCr_r (kl := kl) (ke := ke) (a := la) (b := lb) (same := decide (sI S (sV S s + 6) 4 = sI S (sV S e + 6) 4)) hl1 hk1 h1
  refine rn_aload_n dX8_leftForLate_0 rfl ?_
  refine rn_getfield dX8_leftForLate_1 fo_X8_24 (h_tim (by omega)) rfl ?_
  refine rn_getfield dX8_leftForLate_4 fo_X8_46 h_chip rfl ?_
  refine rn_iload_n dX8_leftForLate_7 rfl ?_
  refine rn_aaload dX8_leftForLate_8 h_nodes rfl (vp_in_nI (by omega) (by decide)) (refs_at rfl (by omega) (by decide)) ?_
  refine rn_astore dX8_leftForLate_9 (by decide) rfl ?_
  refine rn_aload_n dX8_leftForLate_11 rfl ?_
  refine rn_getfield dX8_leftForLate_12 fo_X8_24 (h_tim (by omega)) rfl ?_
  refine rn_getfield dX8_leftForLate_15 fo_X8_46 h_chip rfl ?_
  refine rn_iload_n dX8_leftForLate_18 rfl ?_
  refine rn_aaload dX8_leftForLate_19 h_nodes rfl (vp_in_nI (by omega) (by decide)) (refs_at rfl (by omega) (by decide)) ?_
  refine rn_astore dX8_leftForLate_20 (by decide) rfl ?_
  refine rn_aload_n dX8_leftForLate_22 rfl ?_
  refine rn_getfield dX8_leftForLate_23 fo_X8_28 (h_tim (by omega)) rfl ?_
  refine rn_iload_n dX8_leftForLate_26 rfl ?_
  refine rn_iload_n dX8_leftForLate_27 rfl ?_
  refine rn_callV dX8_leftForLate_28 cv_X8_139 (c_X6_gapBetween hs he) rfl h_paths rfl rfl (by decide) (by decide) rfl (Nat.le_of_ble_eq_true rfl) ?_
  refine rn_topi hgp ?_
  refine rn_i2dv dX8_leftForLate_31 ?_
  rw [nI_toInt (by omega)]
  refine rn_dstore dX8_leftForLate_32 (by decide) rfl ?_
  refine rn_dload dX8_leftForLate_34 rfl ?_
  refine rn_aload dX8_leftForLate_36 rfl ?_
  refine rn_getfield dX8_leftForLate_38 fo_X8_142 (h_node (by omega)) rfl ?_
  refine rn_getfield dX8_leftForLate_41 fo_X8_146 (h_clock (by omega)) rfl ?_
  refine rn_topi hun ?_
  refine rn_i2dv dX8_leftForLate_44 ?_
  rw [nI_toInt (by omega)]
  refine rn_dcon (n := 0) (m := 1024) dX8_leftForLate_45 wd_350 (by decide +kernel) ?_
  refine rn_dmulv (c := 1024 * un) dX8_leftForLate_48 (dB_of (by omega) (by omega)) (dB_of (by omega) (by omega)) (by omega) (by omega) (by omega) ?_
  refine rn_dsubv dX8_leftForLate_49 (dB_of (by omega) (by omega)) (dB_of (by omega) (by omega)) ?_
  refine rn_dstore dX8_leftForLate_50 (by decide) rfl ?_
  refine rn_dload dX8_leftForLate_52 rfl ?_
  refine rn_aload dX8_leftForLate_54 rfl ?_
  refine rn_getfield dX8_leftForLate_56 fo_X8_50 (h_node (by omega)) rfl ?_
  refine rn_bipush (v := 8) dX8_leftForLate_59 rfl ?_
  refine rn_icmp_ne (tgt := 68) dX8_leftForLate_61 rfl (fun q1 => ?_) (fun q1 => ?_)
  · refine rn_dcon1 dX8_leftForLate_68 ?_
    refine rn_dsubv dX8_leftForLate_69 (dB_of (by omega) (by omega)) (dB_of (by omega) (by omega)) ?_
    refine rn_dstore dX8_leftForLate_70 (by decide) rfl ?_
    refine rn_dload dX8_leftForLate_72 rfl ?_
    refine rn_aload dX8_leftForLate_74 rfl ?_
    refine rn_callV dX8_leftForLate_76 cv_X8_153 (c_X5_lag he hve hlb hsb h2 h4) rfl (h_node (by omega)) rfl rfl (by decide) (by decide) rfl (Nat.le_of_ble_eq_true rfl) ?_
    refine rn_aload_n dX8_leftForLate_79 rfl ?_
    refine rn_getfield dX8_leftForLate_80 fo_X8_81 (h_corner (by omega)) rfl ?_
    refine rn_topd hke ?_
    refine rn_dmulv (c := 128 * xq (lb + sb) ke) dX8_leftForLate_83 (dB_of (by omega) (by omega)) (dB_of (by omega) (by omega)) (by omega) (by omega) (by unfold xq; grind) ?_
    refine rn_daddv dX8_leftForLate_84 (dB_of (by omega) (by omega)) (dB_of (by omega) (by omega)) ?_
    refine rn_dstore dX8_leftForLate_85 (by decide) rfl ?_
    refine rn_dload dX8_leftForLate_87 rfl ?_
    refine rn_aload dX8_leftForLate_89 rfl ?_
    refine rn_callV dX8_leftForLate_91 cv_X8_153 (c_X5_lag hs hvs hla hsa h1 h3) rfl (h_node (by omega)) rfl rfl (by decide) (by decide) rfl (Nat.le_of_ble_eq_true rfl) ?_
    refine rn_aload_n dX8_leftForLate_94 rfl ?_
    refine rn_getfield dX8_leftForLate_95 fo_X8_75 (h_corner (by omega)) rfl ?_
    refine rn_topd hkl ?_
    refine rn_dmulv (c := 128 * xq (la + sa) kl) dX8_leftForLate_98 (dB_of (by omega) (by omega)) (dB_of (by omega) (by omega)) (by omega) (by omega) (by unfold xq; grind) ?_
    refine rn_dsubv dX8_leftForLate_99 (dB_of (by omega) (by omega)) (dB_of (by omega) (by omega)) ?_
    refine rn_dstore dX8_leftForLate_100 (by decide) rfl ?_
    refine rn_dload dX8_leftForLate_102 rfl ?_
    refine rn_aload dX8_leftForLate_104 rfl ?_
    refine rn_getfield dX8_leftForLate_106 fo_X8_142 (h_node (by omega)) rfl ?_
    refine rn_aload dX8_leftForLate_109 rfl ?_
    refine rn_getfield dX8_leftForLate_111 fo_X8_142 (h_node (by omega)) rfl ?_
    refine rn_aload_n dX8_leftForLate_114 rfl ?_
    refine rn_callS dX8_leftForLate_115 cs_X8_157 (c_X8_credit hvs hve hc hla hlb h1 h2 hkl hke hl1 hk1) rfl (by decide) (by decide) rfl (Nat.le_of_ble_eq_true rfl) ?_
    refine rn_daddv dX8_leftForLate_118 (dB_of (by omega) (by omega)) (dB_of (by omega) (by omega)) ?_
    refine rn_dstore dX8_leftForLate_119 (by decide) rfl ?_
    refine rn_iload_n dX8_leftForLate_121 rfl ?_
    refine rn_bipush (v := nI 32) dX8_leftForLate_122 (by decide) ?_
    refine rn_imul dX8_leftForLate_124 ?_
    refine rn_topi (nI_mul _ _) ?_
    refine rn_aload dX8_leftForLate_125 rfl ?_
    refine rn_getfield dX8_leftForLate_127 fo_X8_104 (h_node (by omega)) rfl ?_
    refine rn_topi hfe ?_
    refine rn_iconst (v := nI 2) dX8_leftForLate_130 (by decide) ?_
    refine rn_imul dX8_leftForLate_131 ?_
    refine rn_topi (nI_mul _ _) ?_
    refine rn_iadd dX8_leftForLate_132 ?_
    refine rn_topi (nI_add _ _) ?_
    refine rn_istore dX8_leftForLate_133 (by decide) rfl ?_
    refine rn_dload dX8_leftForLate_135 rfl ?_
    refine rn_aload_n dX8_leftForLate_137 rfl ?_
    refine rn_getfield dX8_leftForLate_138 fo_X8_9 (h_tim (by omega)) rfl ?_
    refine rn_iload dX8_leftForLate_141 rfl ?_
    refine rn_iconst (v := nI 0) dX8_leftForLate_143 (by decide) ?_
    refine rn_iadd dX8_leftForLate_144 ?_
    refine rn_topi (nI_add _ _) ?_
    refine rn_daload dX8_leftForLate_145 (h_arr (by omega)) rfl (vp_in_nI (by omega) (by decide)) ?_
    rw [nI_clamp (by omega)]
    rw [hp0]
    refine rn_aload_n dX8_leftForLate_146 rfl ?_
    refine rn_getfield dX8_leftForLate_147 fo_X8_9 (h_tim (by omega)) rfl ?_
    refine rn_iload dX8_leftForLate_150 rfl ?_
    refine rn_iconst (v := nI 1) dX8_leftForLate_152 (by decide) ?_
    refine rn_iadd dX8_leftForLate_153 ?_
    refine rn_topi (nI_add _ _) ?_
    refine rn_daload dX8_leftForLate_154 (h_arr (by omega)) rfl (vp_in_nI (by omega) (by decide)) ?_
    rw [nI_clamp (by omega)]
    rw [hp1]
    refine rn_callSN dX8_leftForLate_155 csn_X8_161 (c_X9_greater (dB_of (by omega) (by omega)) (dB_of (by omega) (by omega))) rfl (by decide) (by decide) rfl (Nat.le_of_ble_eq_true rfl) ?_
    refine rn_dsubv dX8_leftForLate_158 (dB_of (by omega) (by omega)) (dB_of (by omega) (by omega)) ?_
    exact rn_ret dX8_leftForLate_159 trivial (by replace q1 : ¬ kd S e = 8 := q1; unfold lfLate; rw [if_neg (by simpa using q1)]; rfl)
  · refine rn_dcon0 dX8_leftForLate_64 ?_
    refine rn_goto (tgt := 69) dX8_leftForLate_65 rfl ?_
    refine rn_dsubv dX8_leftForLate_69 (dB_of (by omega) (by omega)) (dB_of (by omega) (by omega)) ?_
    refine rn_dstore dX8_leftForLate_70 (by decide) rfl ?_
    refine rn_dload dX8_leftForLate_72 rfl ?_
    refine rn_aload dX8_leftForLate_74 rfl ?_
    refine rn_callV dX8_leftForLate_76 cv_X8_153 (c_X5_lag he hve hlb hsb h2 h4) rfl (h_node (by omega)) rfl rfl (by decide) (by decide) rfl (Nat.le_of_ble_eq_true rfl) ?_
    refine rn_aload_n dX8_leftForLate_79 rfl ?_
    refine rn_getfield dX8_leftForLate_80 fo_X8_81 (h_corner (by omega)) rfl ?_
    refine rn_topd hke ?_
    refine rn_dmulv (c := 128 * xq (lb + sb) ke) dX8_leftForLate_83 (dB_of (by omega) (by omega)) (dB_of (by omega) (by omega)) (by omega) (by omega) (by unfold xq; grind) ?_
    refine rn_daddv dX8_leftForLate_84 (dB_of (by omega) (by omega)) (dB_of (by omega) (by omega)) ?_
    refine rn_dstore dX8_leftForLate_85 (by decide) rfl ?_
    refine rn_dload dX8_leftForLate_87 rfl ?_
    refine rn_aload dX8_leftForLate_89 rfl ?_
    refine rn_callV dX8_leftForLate_91 cv_X8_153 (c_X5_lag hs hvs hla hsa h1 h3) rfl (h_node (by omega)) rfl rfl (by decide) (by decide) rfl (Nat.le_of_ble_eq_true rfl) ?_
    refine rn_aload_n dX8_leftForLate_94 rfl ?_
    refine rn_getfield dX8_leftForLate_95 fo_X8_75 (h_corner (by omega)) rfl ?_
    refine rn_topd hkl ?_
    refine rn_dmulv (c := 128 * xq (la + sa) kl) dX8_leftForLate_98 (dB_of (by omega) (by omega)) (dB_of (by omega) (by omega)) (by omega) (by omega) (by unfold xq; grind) ?_
    refine rn_dsubv dX8_leftForLate_99 (dB_of (by omega) (by omega)) (dB_of (by omega) (by omega)) ?_
    refine rn_dstore dX8_leftForLate_100 (by decide) rfl ?_
    refine rn_dload dX8_leftForLate_102 rfl ?_
    refine rn_aload dX8_leftForLate_104 rfl ?_
    refine rn_getfield dX8_leftForLate_106 fo_X8_142 (h_node (by omega)) rfl ?_
    refine rn_aload dX8_leftForLate_109 rfl ?_
    refine rn_getfield dX8_leftForLate_111 fo_X8_142 (h_node (by omega)) rfl ?_
    refine rn_aload_n dX8_leftForLate_114 rfl ?_
    refine rn_callS dX8_leftForLate_115 cs_X8_157 (c_X8_credit hvs hve hc hla hlb h1 h2 hkl hke hl1 hk1) rfl (by decide) (by decide) rfl (Nat.le_of_ble_eq_true rfl) ?_
    refine rn_daddv dX8_leftForLate_118 (dB_of (by omega) (by omega)) (dB_of (by omega) (by omega)) ?_
    refine rn_dstore dX8_leftForLate_119 (by decide) rfl ?_
    refine rn_iload_n dX8_leftForLate_121 rfl ?_
    refine rn_bipush (v := nI 32) dX8_leftForLate_122 (by decide) ?_
    refine rn_imul dX8_leftForLate_124 ?_
    refine rn_topi (nI_mul _ _) ?_
    refine rn_aload dX8_leftForLate_125 rfl ?_
    refine rn_getfield dX8_leftForLate_127 fo_X8_104 (h_node (by omega)) rfl ?_
    refine rn_topi hfe ?_
    refine rn_iconst (v := nI 2) dX8_leftForLate_130 (by decide) ?_
    refine rn_imul dX8_leftForLate_131 ?_
    refine rn_topi (nI_mul _ _) ?_
    refine rn_iadd dX8_leftForLate_132 ?_
    refine rn_topi (nI_add _ _) ?_
    refine rn_istore dX8_leftForLate_133 (by decide) rfl ?_
    refine rn_dload dX8_leftForLate_135 rfl ?_
    refine rn_aload_n dX8_leftForLate_137 rfl ?_
    refine rn_getfield dX8_leftForLate_138 fo_X8_9 (h_tim (by omega)) rfl ?_
    refine rn_iload dX8_leftForLate_141 rfl ?_
    refine rn_iconst (v := nI 0) dX8_leftForLate_143 (by decide) ?_
    refine rn_iadd dX8_leftForLate_144 ?_
    refine rn_topi (nI_add _ _) ?_
    refine rn_daload dX8_leftForLate_145 (h_arr (by omega)) rfl (vp_in_nI (by omega) (by decide)) ?_
    rw [nI_clamp (by omega)]
    rw [hp0]
    refine rn_aload_n dX8_leftForLate_146 rfl ?_
    refine rn_getfield dX8_leftForLate_147 fo_X8_9 (h_tim (by omega)) rfl ?_
    refine rn_iload dX8_leftForLate_150 rfl ?_
    refine rn_iconst (v := nI 1) dX8_leftForLate_152 (by decide) ?_
    refine rn_iadd dX8_leftForLate_153 ?_
    refine rn_topi (nI_add _ _) ?_
    refine rn_daload dX8_leftForLate_154 (h_arr (by omega)) rfl (vp_in_nI (by omega) (by decide)) ?_
    rw [nI_clamp (by omega)]
    rw [hp1]
    refine rn_callSN dX8_leftForLate_155 csn_X8_161 (c_X9_greater (dB_of (by omega) (by omega)) (dB_of (by omega) (by omega))) rfl (by decide) (by decide) rfl (Nat.le_of_ble_eq_true rfl) ?_
    refine rn_dsubv dX8_leftForLate_158 (dB_of (by omega) (by omega)) (dB_of (by omega) (by omega)) ?_
    exact rn_ret dX8_leftForLate_159 trivial (by replace q1 : kd S e = 8 := q1; unfold lfLate; rw [if_pos (by simpa using q1)]; rfl)
set_option maxRecDepth 20000 in
theorem c_X8_leftForEarly {j s e c kl ke la sa lb sb un a : Nat} {p0 p1 : Int} (hj : j < 7) (hs : s < 16) (he : e < 16) (hc : c < 3) (hv : ∀ i, i < 16 → sV S i < 4) (hkl : sD S (c + 10) 0 = dv (512 * kl)) (hke : sD S (c + 10) 1 = dv (512 * ke)) (hl1 : kl ≤ 16) (hk1 : ke ≤ kl) (hla : sI S (sV S s + 6) 1 = nI la) (hlb : sI S (sV S e + 6) 1 = nI lb) (hsa : sI S (s + 13) 7 = nI sa) (hsb : sI S (e + 13) 7 = nI sb) (hun : sI S (sV S e + 6) 2 = nI un) (h1 : la ≤ 100) (h2 : lb ≤ 100) (h3 : sa ≤ 20) (h4 : sb ≤ 20) (h5 : un ≤ 20) (ha : a < 16) (hfe : fe1 S e = nI a) (hp0 : sD S (5 * j + 50) (s * 32 + a * 2 + 0) = dv p0) (hp1 : sD S (5 * j + 50) (s * 32 + a * 2 + 1) = dv p1) (q0 : 0 ≤ p0) (q00 : p0 ≤ 100000000) (q1' : 0 ≤ p1) (q11 : p1 ≤ 100000000) : Cn l D ad tc L xs mX8_leftForEarly 1 23 [.ref (5 * j + 50), .int (nI s), .int (nI e), .ref (c + 11)] (wd S E, sl) (some (.double (dv (lfEarly (decide (kd S e = 8)) un (la + sa) (lb + sb) kl ke (mCr kl ke la lb (decide (sI S (sV S s + 6) 4 = sI S (sV S e + 6) 4))) p0 p1)))) (wd S E, sl) := by
  refine cn_of (lv0 := [(0, .ref (5 * j + 50)), (1, .int (nI s)), (2, .int (nI e)), (3, .ref (c + 11))]) (by decide +kernel) rfl (fun _ => by simp [lg_sl, j_v, Value.category]) (fun _ => rfl) ?_
  have hvs := hv s hs
  have hve := hv e he
  have x1 := xq_r (lg := la + sa) (k := ke) (by omega) (by omega)
  have x2 := xq_r (lg := la + sa) (k := kl) (by omega) (by omega)
  have x3 := xq_r (lg := lb + sb) (k := ke) (by omega) (by omega)
  have x4 := xq_r (lg := lb + sb) (k := kl) (by omega) (by omega)
  have x5 := mCr_r (kl := kl) (ke := ke) (a := la) (b := lb) (same := decide (sI S (sV S s + 6) 4 = sI S (sV S e + 6) 4)) hl1 hk1 h1
  refine rn_aload_n dX8_leftForEarly_0 rfl ?_
  refine rn_getfield dX8_leftForEarly_1 fo_X8_24 (h_tim (by omega)) rfl ?_
  refine rn_getfield dX8_leftForEarly_4 fo_X8_46 h_chip rfl ?_
  refine rn_iload_n dX8_leftForEarly_7 rfl ?_
  refine rn_aaload dX8_leftForEarly_8 h_nodes rfl (vp_in_nI (by omega) (by decide)) (refs_at rfl (by omega) (by decide)) ?_
  refine rn_astore dX8_leftForEarly_9 (by decide) rfl ?_
  refine rn_aload_n dX8_leftForEarly_11 rfl ?_
  refine rn_getfield dX8_leftForEarly_12 fo_X8_24 (h_tim (by omega)) rfl ?_
  refine rn_getfield dX8_leftForEarly_15 fo_X8_46 h_chip rfl ?_
  refine rn_iload_n dX8_leftForEarly_18 rfl ?_
  refine rn_aaload dX8_leftForEarly_19 h_nodes rfl (vp_in_nI (by omega) (by decide)) (refs_at rfl (by omega) (by decide)) ?_
  refine rn_astore dX8_leftForEarly_20 (by decide) rfl ?_
  refine rn_iload_n dX8_leftForEarly_22 rfl ?_
  refine rn_bipush (v := nI 32) dX8_leftForEarly_23 (by decide) ?_
  refine rn_imul dX8_leftForEarly_25 ?_
  refine rn_topi (nI_mul _ _) ?_
  refine rn_aload dX8_leftForEarly_26 rfl ?_
  refine rn_getfield dX8_leftForEarly_28 fo_X8_104 (h_node (by omega)) rfl ?_
  refine rn_topi hfe ?_
  refine rn_iconst (v := nI 2) dX8_leftForEarly_31 (by decide) ?_
  refine rn_imul dX8_leftForEarly_32 ?_
  refine rn_topi (nI_mul _ _) ?_
  refine rn_iadd dX8_leftForEarly_33 ?_
  refine rn_topi (nI_add _ _) ?_
  refine rn_istore dX8_leftForEarly_34 (by decide) rfl ?_
  refine rn_aload_n dX8_leftForEarly_36 rfl ?_
  refine rn_getfield dX8_leftForEarly_37 fo_X8_9 (h_tim (by omega)) rfl ?_
  refine rn_iload dX8_leftForEarly_40 rfl ?_
  refine rn_iconst (v := nI 0) dX8_leftForEarly_42 (by decide) ?_
  refine rn_iadd dX8_leftForEarly_43 ?_
  refine rn_topi (nI_add _ _) ?_
  refine rn_daload dX8_leftForEarly_44 (h_arr (by omega)) rfl (vp_in_nI (by omega) (by decide)) ?_
  rw [nI_clamp (by omega)]
  rw [hp0]
  refine rn_aload_n dX8_leftForEarly_45 rfl ?_
  refine rn_getfield dX8_leftForEarly_46 fo_X8_9 (h_tim (by omega)) rfl ?_
  refine rn_iload dX8_leftForEarly_49 rfl ?_
  refine rn_iconst (v := nI 1) dX8_leftForEarly_51 (by decide) ?_
  refine rn_iadd dX8_leftForEarly_52 ?_
  refine rn_topi (nI_add _ _) ?_
  refine rn_daload dX8_leftForEarly_53 (h_arr (by omega)) rfl (vp_in_nI (by omega) (by decide)) ?_
  rw [nI_clamp (by omega)]
  rw [hp1]
  refine rn_callSN dX8_leftForEarly_54 csn_X8_135 (c_X9_smaller (dB_of (by omega) (by omega)) (dB_of (by omega) (by omega))) rfl (by decide) (by decide) rfl (Nat.le_of_ble_eq_true rfl) ?_
  refine rn_dstore dX8_leftForEarly_57 (by decide) rfl ?_
  refine rn_dload dX8_leftForEarly_59 rfl ?_
  refine rn_aload dX8_leftForEarly_61 rfl ?_
  refine rn_callV dX8_leftForEarly_63 cv_X8_153 (c_X5_lag hs hvs hla hsa h1 h3) rfl (h_node (by omega)) rfl rfl (by decide) (by decide) rfl (Nat.le_of_ble_eq_true rfl) ?_
  refine rn_aload_n dX8_leftForEarly_66 rfl ?_
  refine rn_getfield dX8_leftForEarly_67 fo_X8_81 (h_corner (by omega)) rfl ?_
  refine rn_topd hke ?_
  refine rn_dmulv (c := 128 * xq (la + sa) ke) dX8_leftForEarly_70 (dB_of (by omega) (by omega)) (dB_of (by omega) (by omega)) (by omega) (by omega) (by unfold xq; grind) ?_
  refine rn_daddv dX8_leftForEarly_71 (dB_of (by omega) (by omega)) (dB_of (by omega) (by omega)) ?_
  refine rn_dstore dX8_leftForEarly_72 (by decide) rfl ?_
  refine rn_dload dX8_leftForEarly_74 rfl ?_
  refine rn_aload dX8_leftForEarly_76 rfl ?_
  refine rn_callV dX8_leftForEarly_78 cv_X8_153 (c_X5_lag he hve hlb hsb h2 h4) rfl (h_node (by omega)) rfl rfl (by decide) (by decide) rfl (Nat.le_of_ble_eq_true rfl) ?_
  refine rn_aload_n dX8_leftForEarly_81 rfl ?_
  refine rn_getfield dX8_leftForEarly_82 fo_X8_75 (h_corner (by omega)) rfl ?_
  refine rn_topd hkl ?_
  refine rn_dmulv (c := 128 * xq (lb + sb) kl) dX8_leftForEarly_85 (dB_of (by omega) (by omega)) (dB_of (by omega) (by omega)) (by omega) (by omega) (by unfold xq; grind) ?_
  refine rn_dsubv dX8_leftForEarly_86 (dB_of (by omega) (by omega)) (dB_of (by omega) (by omega)) ?_
  refine rn_dstore dX8_leftForEarly_87 (by decide) rfl ?_
  refine rn_dload dX8_leftForEarly_89 rfl ?_
  refine rn_aload dX8_leftForEarly_91 rfl ?_
  refine rn_getfield dX8_leftForEarly_93 fo_X8_142 (h_node (by omega)) rfl ?_
  refine rn_getfield dX8_leftForEarly_96 fo_X8_146 (h_clock (by omega)) rfl ?_
  refine rn_topi hun ?_
  refine rn_i2dv dX8_leftForEarly_99 ?_
  rw [nI_toInt (by omega)]
  refine rn_dcon (n := 0) (m := 1024) dX8_leftForEarly_100 wd_350 (by decide +kernel) ?_
  refine rn_dmulv (c := 1024 * un) dX8_leftForEarly_103 (dB_of (by omega) (by omega)) (dB_of (by omega) (by omega)) (by omega) (by omega) (by omega) ?_
  refine rn_dsubv dX8_leftForEarly_104 (dB_of (by omega) (by omega)) (dB_of (by omega) (by omega)) ?_
  refine rn_dstore dX8_leftForEarly_105 (by decide) rfl ?_
  refine rn_dload dX8_leftForEarly_107 rfl ?_
  refine rn_aload dX8_leftForEarly_109 rfl ?_
  refine rn_getfield dX8_leftForEarly_111 fo_X8_50 (h_node (by omega)) rfl ?_
  refine rn_bipush (v := 8) dX8_leftForEarly_114 rfl ?_
  refine rn_icmp_ne (tgt := 123) dX8_leftForEarly_116 rfl (fun q1 => ?_) (fun q1 => ?_)
  · refine rn_dcon (n := 0) (m := 2048) dX8_leftForEarly_123 wd_360 (by decide +kernel) ?_
    refine rn_dsubv dX8_leftForEarly_126 (dB_of (by omega) (by omega)) (dB_of (by omega) (by omega)) ?_
    refine rn_dstore dX8_leftForEarly_127 (by decide) rfl ?_
    refine rn_dload dX8_leftForEarly_129 rfl ?_
    refine rn_aload dX8_leftForEarly_131 rfl ?_
    refine rn_getfield dX8_leftForEarly_133 fo_X8_142 (h_node (by omega)) rfl ?_
    refine rn_aload dX8_leftForEarly_136 rfl ?_
    refine rn_getfield dX8_leftForEarly_138 fo_X8_142 (h_node (by omega)) rfl ?_
    refine rn_aload_n dX8_leftForEarly_141 rfl ?_
    refine rn_callS dX8_leftForEarly_142 cs_X8_157 (c_X8_credit hvs hve hc hla hlb h1 h2 hkl hke hl1 hk1) rfl (by decide) (by decide) rfl (Nat.le_of_ble_eq_true rfl) ?_
    refine rn_daddv dX8_leftForEarly_145 (dB_of (by omega) (by omega)) (dB_of (by omega) (by omega)) ?_
    exact rn_ret dX8_leftForEarly_146 trivial (by replace q1 : ¬ kd S e = 8 := q1; unfold lfEarly; rw [if_neg (by simpa using q1)]; rfl)
  · refine rn_dcon0 dX8_leftForEarly_119 ?_
    refine rn_goto (tgt := 126) dX8_leftForEarly_120 rfl ?_
    refine rn_dsubv dX8_leftForEarly_126 (dB_of (by omega) (by omega)) (dB_of (by omega) (by omega)) ?_
    refine rn_dstore dX8_leftForEarly_127 (by decide) rfl ?_
    refine rn_dload dX8_leftForEarly_129 rfl ?_
    refine rn_aload dX8_leftForEarly_131 rfl ?_
    refine rn_getfield dX8_leftForEarly_133 fo_X8_142 (h_node (by omega)) rfl ?_
    refine rn_aload dX8_leftForEarly_136 rfl ?_
    refine rn_getfield dX8_leftForEarly_138 fo_X8_142 (h_node (by omega)) rfl ?_
    refine rn_aload_n dX8_leftForEarly_141 rfl ?_
    refine rn_callS dX8_leftForEarly_142 cs_X8_157 (c_X8_credit hvs hve hc hla hlb h1 h2 hkl hke hl1 hk1) rfl (by decide) (by decide) rfl (Nat.le_of_ble_eq_true rfl) ?_
    refine rn_daddv dX8_leftForEarly_145 (dB_of (by omega) (by omega)) (dB_of (by omega) (by omega)) ?_
    exact rn_ret dX8_leftForEarly_146 trivial (by replace q1 : kd S e = 8 := q1; unfold lfEarly; rw [if_pos (by simpa using q1)]; rfl)
set_option maxRecDepth 20000 in
theorem c_X8_leftOf {j s e : Nat} {p : Int} (hj : j < 7) (hs : s < 16) (he : e < 16) (hp : bitR (sA S 40) s e = true → sD S (5 * j + 51) (s * 16 + e) = dv p) : Cn l D ad tc L xs mX8_leftOf 1 22 [.ref (5 * j + 50), .int (nI s), .int (nI e)] (wd S E, sl) (some (.double (dv (if bitR (sA S 40) s e = true then p else 409595904)))) (wd S E, sl) := by
  refine cn_of (lv0 := [(0, .ref (5 * j + 50)), (1, .int (nI s)), (2, .int (nI e))]) (by decide +kernel) rfl (fun _ => by simp [lg_sl, j_v, Value.category]) (fun _ => rfl) ?_
  refine rn_aload_n dX8_leftOf_0 rfl ?_
  refine rn_getfield dX8_leftOf_1 fo_X8_28 (h_tim (by omega)) rfl ?_
  refine rn_iload_n dX8_leftOf_4 rfl ?_
  refine rn_iload_n dX8_leftOf_5 rfl ?_
  refine rn_callV dX8_leftOf_6 cv_X8_117 (c_X6_isChecked he) rfl h_paths rfl rfl (by decide) (by decide) rfl (Nat.le_of_ble_eq_true rfl) ?_
  refine rn_if_eq (tgt := 26) dX8_leftOf_9 rfl (fun q1 => ?_) (fun q1 => ?_)
  · rw [bI_0] at q1
    replace q1 : bitR (sA S 40) s e = false := q1
    refine rn_dcon (n := 0) (m := 409595904) dX8_leftOf_26 wd_339 (by decide +kernel) ?_
    exact rn_ret dX8_leftOf_29 trivial (by rw [if_neg (by rw [q1]; decide)]; rfl)
  · rw [bI_n] at q1
    replace q1 : bitR (sA S 40) s e = true := q1
    refine rn_aload_n dX8_leftOf_12 rfl ?_
    refine rn_getfield dX8_leftOf_13 fo_X8_15 (h_tim (by omega)) rfl ?_
    refine rn_iload_n dX8_leftOf_16 rfl ?_
    refine rn_bipush (v := nI 16) dX8_leftOf_17 (by decide) ?_
    refine rn_imul dX8_leftOf_19 ?_
    refine rn_topi (nI_mul _ _) ?_
    refine rn_iload_n dX8_leftOf_20 rfl ?_
    refine rn_iadd dX8_leftOf_21 ?_
    refine rn_topi (nI_add _ _) ?_
    refine rn_daload dX8_leftOf_22 (h_lefts (by omega)) rfl (vp_in_nI (by omega) (by decide)) ?_
    rw [nI_clamp (by omega)]
    rw [hp q1]
    refine rn_goto (tgt := 29) dX8_leftOf_23 rfl ?_
    exact rn_ret dX8_leftOf_29 trivial (by rw [if_pos q1]; rfl)
set_option maxRecDepth 20000 in
theorem c_X8_arrivalOf {j s i f : Nat} {p : Int} (hj : j < 7) (hs : s < 16) (hi : i < 16) (hf : f ≤ 1) (hp : bitR (sA S 39) s i = true → sD S (5 * j + 50) (s * 32 + i * 2 + f) = dv p) : Cn l D ad tc L xs mX8_arrivalOf 1 22 [.ref (5 * j + 50), .int (nI s), .int (nI i), .int (nI f)] (wd S E, sl) (some (.double (dv (if bitR (sA S 39) s i = true then p else -4096)))) (wd S E, sl) := by
  refine cn_of (lv0 := [(0, .ref (5 * j + 50)), (1, .int (nI s)), (2, .int (nI i)), (3, .int (nI f))]) (by decide +kernel) rfl (fun _ => by simp [lg_sl, j_v, Value.category]) (fun _ => rfl) ?_
  refine rn_aload_n dX8_arrivalOf_0 rfl ?_
  refine rn_getfield dX8_arrivalOf_1 fo_X8_28 (h_tim (by omega)) rfl ?_
  refine rn_iload_n dX8_arrivalOf_4 rfl ?_
  refine rn_iload_n dX8_arrivalOf_5 rfl ?_
  refine rn_callV dX8_arrivalOf_6 cv_X8_94 (c_X6_reaches hi) rfl h_paths rfl rfl (by decide) (by decide) rfl (Nat.le_of_ble_eq_true rfl) ?_
  refine rn_if_eq (tgt := 30) dX8_arrivalOf_9 rfl (fun q1 => ?_) (fun q1 => ?_)
  · rw [bI_0] at q1
    replace q1 : bitR (sA S 39) s i = false := q1
    refine rn_dcon (n := 0) (m := -4096) dX8_arrivalOf_30 wd_364 (by decide +kernel) ?_
    exact rn_ret dX8_arrivalOf_33 trivial (by rw [if_neg (by rw [q1]; decide)]; rfl)
  · rw [bI_n] at q1
    replace q1 : bitR (sA S 39) s i = true := q1
    refine rn_aload_n dX8_arrivalOf_12 rfl ?_
    refine rn_getfield dX8_arrivalOf_13 fo_X8_9 (h_tim (by omega)) rfl ?_
    refine rn_iload_n dX8_arrivalOf_16 rfl ?_
    refine rn_bipush (v := nI 32) dX8_arrivalOf_17 (by decide) ?_
    refine rn_imul dX8_arrivalOf_19 ?_
    refine rn_topi (nI_mul _ _) ?_
    refine rn_iload_n dX8_arrivalOf_20 rfl ?_
    refine rn_iconst (v := nI 2) dX8_arrivalOf_21 (by decide) ?_
    refine rn_imul dX8_arrivalOf_22 ?_
    refine rn_topi (nI_mul _ _) ?_
    refine rn_iadd dX8_arrivalOf_23 ?_
    refine rn_topi (nI_add _ _) ?_
    refine rn_iload_n dX8_arrivalOf_24 rfl ?_
    refine rn_iadd dX8_arrivalOf_25 ?_
    refine rn_topi (nI_add _ _) ?_
    refine rn_daload dX8_arrivalOf_26 (h_arr (by omega)) rfl (vp_in_nI (by omega) (by decide)) ?_
    rw [nI_clamp (by omega)]
    rw [hp q1]
    refine rn_goto (tgt := 33) dX8_arrivalOf_27 rfl ?_
    exact rn_ret dX8_arrivalOf_33 trivial (by rw [if_pos q1]; rfl)
end T4
