/-! The face: digest of one node -/
theorem nTell_s {S S' : jS} (h : TS S S') {i : Nat} (hi : i < 16) : ∀ k, nTell S' i k = nTell S i k
  | 0 => h.1 _ _ (by omega)
  | 1 => h.1 _ _ (by omega)
  | 2 => h.1 _ _ (by omega)
  | 3 => h.1 _ _ (by omega)
  | 4 => h.1 _ _ (by omega)
  | _ + 5 => h.1 _ _ (by omega)
theorem cTell_s {S S' : jS} (h : TS S S') {v : Nat} (hv : v < 4) : ∀ k, cTell S' v k = cTell S v k
  | 0 => h.1 _ _ (by omega)
  | 1 => h.1 _ _ (by omega)
  | 2 => h.1 _ _ (by omega)
  | 3 => h.1 _ _ (by omega)
  | _ + 4 => h.1 _ _ (by omega)
theorem mTf_s {S S' : jS} (h : TS S S') {v : Int32} : ∀ k, k ≤ 16 → mTf S' v k = mTf S v k
  | 0, _ => rfl
  | k + 1, hk => by
    unfold mTf
    rw [mTf_s h k (by omega), fe1_s (TZ_of h) (by omega), fe2_s (TZ_of h) (by omega)]
theorem oTell_s {S S' : jS} (h : TS S S') {n i k : Nat} (hn : n ≤ 16) (hi : i < 16) : oTell S' n i k = oTell S n i k := by
  unfold oTell
  rw [mTf_s h n hn, nTell_s h hi]
theorem d64 {b : Int} (h1 : -1000000000 < b) (h2 : b < 1000000000) : FP.dmul (dv 262144) (dv b) = dv (64 * b) := by
  refine dv_mul (dB_of (by omega) (by omega)) (dB_of (by omega) (by omega)) ?_ (by omega)
  by_cases hb : b < 0
  · rw [decide_eq_true hb, decide_eq_true (show (262144 : Int) * b < 0 by omega)]
    rfl
  · rw [decide_eq_false hb, decide_eq_false (show ¬ (262144 : Int) * b < 0 by omega)]
    rfl
def vDN1 (Q : QC) (i : Nat) (d : Int64) : Nat → Int64
  | 0 => d
  | k + 1 => vDN1 Q i d k * 31 + (oTell Q.X Q.n i k).toInt64
def vDN2 (Q : QC) (i : Nat) (d : Int64) : Int64 := vDN1 Q i d 7 * 31 + FP.d2l (dv (64 * (1024 * (qLd Q.X Q.w Q.n i : Nat))))
def vDN (Q : QC) (i : Nat) (d : Int64) : Int64 := if enB Q.X i = true then ((vDN2 Q i d * 31 + FP.d2l (dv (64 * (Q.T 1).2.2.1 i))) * 31 + FP.d2l (dv (64 * (Q.T 2).2.2.1 i))) * 31 + (mWw Q.X i Q.n (Q.T 1).2.1).toInt64 else vDN2 Q i d
section Q12
variable {l : Launch} {D : va_G} {ad : Nat → Nat} {tc : Nat → ClassId} {L : Nat} {xs : Nat → Int32} {S : jS} {E : List j_C} {sl x : Nat} {Q : QC}
set_option maxRecDepth 20000 in
theorem lp_dn1 {i : Nat} {d : Int64} {r : Option Value} {h' : j_H} (h : Inq Q S) (hi : i < Q.n) (K : Rn l D ad tc L xs mX9_digestNode 6 153 36 [(4, .long (vDN1 Q i d 7)), (0, .ref 1), (3, .int (nI i))] [] (wd S E, sl) r h') : ∀ m k : Nat, k + m = 7 → Rn l D ad tc L xs mX9_digestNode 6 153 6 [(6, .int (nI k)), (4, .long (vDN1 Q i d k)), (0, .ref 1), (3, .int (nI i))] [] (wd S E, sl) r h' := by
  have hn16 := h.1.1.1.2
  intro m
  induction m with
  | zero =>
    intro k hk
    have hk' : k = 7 := by omega
    subst hk'
    refine rn_iload dX9_digestNode_6 rfl ?_
    refine rn_bipush (v := 6) dX9_digestNode_8 rfl ?_
    refine rn_icmp_gt (tgt := 36) dX9_digestNode_10 rfl (fun _ => ?_) (fun q1 => absurd (by rw [show (6 : Int32) = nI 6 by decide, Int32.lt_iff_toInt_lt, nI_toInt (by omega), nI_toInt (by omega)]; omega) q1)
    exact rn_subg rfl K
  | succ m ih =>
    intro k hk
    have ih := ih (k + 1) (by omega)
    refine rn_iload dX9_digestNode_6 rfl ?_
    refine rn_bipush (v := 6) dX9_digestNode_8 rfl ?_
    refine rn_icmp_gt (tgt := 36) dX9_digestNode_10 rfl (fun q1 => absurd q1 (by rw [show (6 : Int32) = nI 6 by decide, Int32.lt_iff_toInt_lt, nI_toInt (by omega), nI_toInt (by omega)]; omega)) (fun _ => ?_)
    refine rn_lload dX9_digestNode_13 rfl ?_
    refine rn_ldc2 dX9_digestNode_15 wd_508 ?_
    refine rn_lmul dX9_digestNode_18 ?_
    refine rn_aload_n dX9_digestNode_19 rfl ?_
    refine rn_iload_n dX9_digestNode_20 rfl ?_
    refine rn_iload dX9_digestNode_21 rfl ?_
    refine rn_callV dX9_digestNode_23 cv_X9_243 (c_X9_ofNode h.1.1 hi (by omega)) rfl h_SH rfl rfl (by decide) (by decide) rfl (Nat.le_of_ble_eq_true rfl) ?_
    rw [oTell_s (Inq_TS h) h.1.1.1.2 (by omega)]
    refine rn_i2l dX9_digestNode_26 rfl ?_
    refine rn_ladd dX9_digestNode_27 ?_
    refine rn_lstore dX9_digestNode_28 (by decide) rfl ?_
    refine rn_iinc dX9_digestNode_30 rfl (nI_1 _) (by decide) rfl ?_
    refine rn_goto (tgt := 6) dX9_digestNode_33 rfl ?_
    exact rn_subg rfl ih
set_option maxRecDepth 20000 in
theorem lp_dn2 {i : Nat} {d : Int64} (h : Inq Q S) (hi : i < Q.n) : ∃ S', Inq Q S' ∧ Rn l D ad tc L xs mX9_digestNode 6 153 36 [(4, .long (vDN1 Q i d 7)), (0, .ref 1), (3, .int (nI i))] [] (wd S E, sl) (some (.long (vDN Q i d))) (wd S' E, sl) := by
  have hn16 := h.1.1.1.2
  have hc1 := h.1.1.2.2.1.2.1
  have hqr := qLd_r (Told_z (Inq_X h).1) (fun i hi => (h.1.2.1 i hi).1) Q.n hn16 i (by omega)
  obtain ⟨S1, h1, kl⟩ := q_load (l := l) (D := D) (ad := ad) (tc := tc) (L := L) (xs := xs) (E := E) (sl := sl) h hi
  have hen := enB_s (TZ_of (Inq_TS h1)) (show i < 16 by omega)
  cases hk : enB Q.X i with
  | true =>
    rw [hk] at hen
    have m1 := (T_ok (j := 1) h (by decide) (by decide)).2.2.1 i
    have m2 := (T_ok (j := 2) h (by decide) (by decide)).2.2.1 i
    obtain ⟨S2, h2, kt⟩ := q_leftAt (l := l) (D := D) (ad := ad) (tc := tc) (L := L) (xs := xs) (E := E) (sl := sl) (b := true) (c := 0) h1 hi hk (by omega)
    obtain ⟨S3, h3, kf⟩ := q_leftAt (l := l) (D := D) (ad := ad) (tc := tc) (L := L) (xs := xs) (E := E) (sl := sl) (b := false) (c := 0) h2 hi hk (by omega)
    obtain ⟨S4, h4, kw⟩ := q_worst (l := l) (D := D) (ad := ad) (tc := tc) (L := L) (xs := xs) (E := E) (sl := sl) h3 hi hk
    replace kt : Cn l D ad tc L xs mX9_leftAt 5 130 [.ref 1, .int (nI i), .int (nI 0), .int (bI true)] (wd S1 E, sl) (some (.double (dv ((Q.T 1).2.2.1 i)))) (wd S2 E, sl) := kt
    replace kf : Cn l D ad tc L xs mX9_leftAt 5 130 [.ref 1, .int (nI i), .int (nI 0), .int (bI false)] (wd S2 E, sl) (some (.double (dv ((Q.T 2).2.2.1 i)))) (wd S3 E, sl) := kf
    refine ⟨S4, h4, ?_⟩
    refine rn_lload dX9_digestNode_36 rfl ?_
    refine rn_ldc2 dX9_digestNode_38 wd_508 ?_
    refine rn_lmul dX9_digestNode_41 ?_
    refine rn_dcon (n := 0) (m := 262144) dX9_digestNode_42 wd_525 (by decide +kernel) ?_
    refine rn_aload_n dX9_digestNode_45 rfl ?_
    refine rn_iload_n dX9_digestNode_46 rfl ?_
    refine rn_callV dX9_digestNode_47 cv_X9_248 kl rfl h_SH rfl rfl (by decide) (by decide) rfl (Nat.le_of_ble_eq_true rfl) ?_
    refine rn_dmul dX9_digestNode_50 (by rw [d64 (by omega) (by omega)]; exact dv_n _) ?_
    refine rn_topd (d64 (by omega) (by omega)) ?_
    refine rn_d2l dX9_digestNode_51 ?_
    refine rn_ladd dX9_digestNode_52 ?_
    refine rn_lstore dX9_digestNode_53 (by decide) rfl ?_
    refine rn_aload_n dX9_digestNode_55 rfl ?_
    refine rn_getfield dX9_digestNode_56 fo_X9_12 h_SH rfl ?_
    refine rn_getfield dX9_digestNode_59 fo_X9_88 h_chip rfl ?_
    refine rn_iload_n dX9_digestNode_62 rfl ?_
    refine rn_aaload dX9_digestNode_63 h_nodes rfl (vp_in_nI (by omega) (by decide)) (refs_at rfl (by omega) (by decide)) ?_
    refine rn_callV dX9_digestNode_64 cv_X9_135 (c_X5_isEndKind (by omega)) rfl (h_node (by omega)) rfl rfl (by decide) (by decide) rfl (Nat.le_of_ble_eq_true rfl) ?_
    refine rn_topi (is_b hen) ?_
    refine rn_if_eq (tgt := 128) dX9_digestNode_67 rfl (fun q1 => absurd q1 (by decide)) (fun _ => ?_)
    refine rn_lload dX9_digestNode_70 rfl ?_
    refine rn_ldc2 dX9_digestNode_72 wd_508 ?_
    refine rn_lmul dX9_digestNode_75 ?_
    refine rn_dcon (n := 0) (m := 262144) dX9_digestNode_76 wd_525 (by decide +kernel) ?_
    refine rn_aload_n dX9_digestNode_79 rfl ?_
    refine rn_iload_n dX9_digestNode_80 rfl ?_
    refine rn_iconst (v := nI 0) dX9_digestNode_81 (by decide) ?_
    refine rn_iconst (v := 1) dX9_digestNode_82 rfl ?_
    refine rn_topi (y := bI true) rfl ?_
    refine rn_callV dX9_digestNode_83 cv_X9_251 kt rfl h_SH rfl rfl (by decide) (by decide) rfl (Nat.le_of_ble_eq_true rfl) ?_
    refine rn_dmul dX9_digestNode_86 (by rw [d64 (by omega) (by omega)]; exact dv_n _) ?_
    refine rn_topd (d64 (by omega) (by omega)) ?_
    refine rn_d2l dX9_digestNode_87 ?_
    refine rn_ladd dX9_digestNode_88 ?_
    refine rn_lstore dX9_digestNode_89 (by decide) rfl ?_
    refine rn_lload dX9_digestNode_91 rfl ?_
    refine rn_ldc2 dX9_digestNode_93 wd_508 ?_
    refine rn_lmul dX9_digestNode_96 ?_
    refine rn_dcon (n := 0) (m := 262144) dX9_digestNode_97 wd_525 (by decide +kernel) ?_
    refine rn_aload_n dX9_digestNode_100 rfl ?_
    refine rn_iload_n dX9_digestNode_101 rfl ?_
    refine rn_iconst (v := nI 0) dX9_digestNode_102 (by decide) ?_
    refine rn_iconst (v := 0) dX9_digestNode_103 rfl ?_
    refine rn_topi (y := bI false) rfl ?_
    refine rn_callV dX9_digestNode_104 cv_X9_251 kf rfl h_SH rfl rfl (by decide) (by decide) rfl (Nat.le_of_ble_eq_true rfl) ?_
    refine rn_dmul dX9_digestNode_107 (by rw [d64 (by omega) (by omega)]; exact dv_n _) ?_
    refine rn_topd (d64 (by omega) (by omega)) ?_
    refine rn_d2l dX9_digestNode_108 ?_
    refine rn_ladd dX9_digestNode_109 ?_
    refine rn_lstore dX9_digestNode_110 (by decide) rfl ?_
    refine rn_lload dX9_digestNode_112 rfl ?_
    refine rn_ldc2 dX9_digestNode_114 wd_508 ?_
    refine rn_lmul dX9_digestNode_117 ?_
    refine rn_aload_n dX9_digestNode_118 rfl ?_
    refine rn_iload_n dX9_digestNode_119 rfl ?_
    refine rn_iconst (v := 0) dX9_digestNode_120 rfl ?_
    refine rn_callV dX9_digestNode_121 cv_X9_255 kw rfl h_SH rfl rfl (by decide) (by decide) rfl (Nat.le_of_ble_eq_true rfl) ?_
    refine rn_i2l dX9_digestNode_124 rfl ?_
    refine rn_ladd dX9_digestNode_125 ?_
    refine rn_lstore dX9_digestNode_126 (by decide) rfl ?_
    refine rn_lload dX9_digestNode_128 rfl ?_
    exact rn_ret dX9_digestNode_130 trivial (by rw [show vDN Q i d = _ from if_pos hk]; rfl)
  | false =>
    rw [hk] at hen
    replace hen : decide (sI S1 (i + 13) 0 = 6 ∨ sI S1 (i + 13) 0 = 7 ∨ sI S1 (i + 13) 0 = 8) = false := hen
    refine ⟨S1, h1, ?_⟩
    refine rn_lload dX9_digestNode_36 rfl ?_
    refine rn_ldc2 dX9_digestNode_38 wd_508 ?_
    refine rn_lmul dX9_digestNode_41 ?_
    refine rn_dcon (n := 0) (m := 262144) dX9_digestNode_42 wd_525 (by decide +kernel) ?_
    refine rn_aload_n dX9_digestNode_45 rfl ?_
    refine rn_iload_n dX9_digestNode_46 rfl ?_
    refine rn_callV dX9_digestNode_47 cv_X9_248 kl rfl h_SH rfl rfl (by decide) (by decide) rfl (Nat.le_of_ble_eq_true rfl) ?_
    refine rn_dmul dX9_digestNode_50 (by rw [d64 (by omega) (by omega)]; exact dv_n _) ?_
    refine rn_topd (d64 (by omega) (by omega)) ?_
    refine rn_d2l dX9_digestNode_51 ?_
    refine rn_ladd dX9_digestNode_52 ?_
    refine rn_lstore dX9_digestNode_53 (by decide) rfl ?_
    refine rn_aload_n dX9_digestNode_55 rfl ?_
    refine rn_getfield dX9_digestNode_56 fo_X9_12 h_SH rfl ?_
    refine rn_getfield dX9_digestNode_59 fo_X9_88 h_chip rfl ?_
    refine rn_iload_n dX9_digestNode_62 rfl ?_
    refine rn_aaload dX9_digestNode_63 h_nodes rfl (vp_in_nI (by omega) (by decide)) (refs_at rfl (by omega) (by decide)) ?_
    refine rn_callV dX9_digestNode_64 cv_X9_135 (c_X5_isEndKind (by omega)) rfl (h_node (by omega)) rfl rfl (by decide) (by decide) rfl (Nat.le_of_ble_eq_true rfl) ?_
    refine rn_topi (y := 0) (by rw [hen]; rfl) ?_
    refine rn_if_eq (tgt := 128) dX9_digestNode_67 rfl (fun _ => ?_) (fun q1 => absurd (by rfl) q1)
    refine rn_lload dX9_digestNode_128 rfl ?_
    exact rn_ret dX9_digestNode_130 trivial (by rw [show vDN Q i d = vDN2 Q i d from if_neg (by rw [hk]; decide)]; rfl)
set_option maxRecDepth 20000 in
theorem q_digestNode {i : Nat} {d : Int64} (h : Inq Q S) (hi : i < Q.n): ∃ S', Inq Q S' ∧ Cn l D ad tc L xs mX9_digestNode 6 153 [.ref 1, .long d, .int (nI i)] (wd S E, sl) (some (.long (vDN Q i d))) (wd S' E, sl) := by
  obtain ⟨S', h', k2⟩ := lp_dn2 (l := l) (D := D) (ad := ad) (tc := tc) (L := L) (xs := xs) (E := E) (sl := sl) (d := d) h hi
  refine ⟨S', h', ?_⟩
  refine cn_of (lv0 := [(0, .ref 1), (1, .long d), (3, .int (nI i))]) (by decide +kernel) rfl (fun _ => by simp [lg_sl, j_v, Value.category]) (fun _ => rfl) ?_
  refine rn_lload_n dX9_digestNode_0 rfl ?_
  refine rn_lstore dX9_digestNode_1 (by decide) rfl ?_
  refine rn_iconst (v := nI 0) dX9_digestNode_3 (by decide) ?_
  refine rn_istore dX9_digestNode_4 (by decide) rfl ?_
  exact rn_subg (lv' := [(6, .int (nI 0)), (4, .long (vDN1 Q i d 0)), (0, .ref 1), (3, .int (nI i))]) rfl (lp_dn1 h hi k2 7 0 (by decide))
end Q12
