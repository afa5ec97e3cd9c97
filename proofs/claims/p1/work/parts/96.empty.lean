/-! A chip without nodes: what is asked of it -/
def Fr (S : jS) : Prop := sI S 1 6 = 0 ∧ sI S 1 5 = 1 ∧ sI S 1 4 = 0 ∧ sI S 1 7 = 0 ∧ sI S 0 2 = 0 ∧ sI S 0 3 = 0
theorem Fr_I {S : jS} {k f : Nat} {v : Int32} (h : Fr S) (hk : 2 ≤ k) : Fr (pI S k f v) := by
  obtain ⟨a, b, c, d, e, f⟩ := h
  exact ⟨(up2_k _ _ (by omega)).trans a, (up2_k _ _ (by omega)).trans b, (up2_k _ _ (by omega)).trans c, (up2_k _ _ (by omega)).trans d, (up2_k _ _ (by omega)).trans e, (up2_k _ _ (by omega)).trans f⟩
theorem Fr_0 : Fr s0 := ⟨rfl, rfl, rfl, rfl, rfl, rfl⟩
section F1
variable {l : Launch} {D : va_G} {ad : Nat → Nat} {tc : Nat → ClassId} {L : Nat} {xs : Nat → Int32} {S : jS} {E : List j_C} {sl x : Nat}
set_option maxRecDepth 20000 in
theorem f_X6_prepare_0 (hF : Fr S) (hf : sI S 38 5 = 0) : Cn l D ad tc L xs mX6_prepare 3 73 [.ref 39] (wd S E, sl) none (wd (pI S 38 5 1) E, sl) := by
  refine cn_of (lv0 := [(0, .ref 39)]) (by decide +kernel) rfl (fun _ => by simp [lg_sl, j_v, Value.category]) (fun _ => rfl) ?_
  refine rn_aload_n dX6_prepare_0 rfl ?_
  refine rn_getfield dX6_prepare_1 fo_X6_28 h_paths rfl ?_
  refine rn_if_eq (tgt := 8) dX6_prepare_4 rfl (fun _ => ?_) (fun q1 => absurd (by exact hf) q1)
  refine rn_iconst (v := 0) dX6_prepare_8 rfl ?_
  refine rn_istore_n dX6_prepare_9 (by decide) rfl ?_
  refine rn_iload_n dX6_prepare_10 rfl ?_
  refine rn_aload_n dX6_prepare_11 rfl ?_
  refine rn_getfield dX6_prepare_12 fo_X6_24 h_paths rfl ?_
  refine rn_getfield dX6_prepare_15 fo_X6_32 h_chip rfl ?_
  refine rn_topi (y := 0) hF.1 ?_
  refine rn_icmp_ge (tgt := 131) dX6_prepare_18 rfl (fun _ => ?_) (fun q => absurd (by decide) q)
  refine rn_iconst (v := 0) dX6_prepare_131 rfl ?_
  refine rn_istore_n dX6_prepare_132 (by decide) rfl ?_
  refine rn_iload_n dX6_prepare_133 rfl ?_
  refine rn_aload_n dX6_prepare_134 rfl ?_
  refine rn_getfield dX6_prepare_135 fo_X6_24 h_paths rfl ?_
  refine rn_getfield dX6_prepare_138 fo_X6_32 h_chip rfl ?_
  refine rn_topi (y := 0) hF.1 ?_
  refine rn_icmp_ge (tgt := 155) dX6_prepare_141 rfl (fun _ => ?_) (fun q => absurd (by decide) q)
  refine rn_aload_n dX6_prepare_155 rfl ?_
  refine rn_iconst (v := 1) dX6_prepare_156 rfl ?_
  refine rn_pI dX6_prepare_157 fp_X6_28 (by decide) rfl rfl (by simp) ⟨rfl, rfl⟩ ⟨_, _, _, rfl, rfl⟩ ?_
  exact rn_ret dX6_prepare_160 trivial rfl
set_option maxRecDepth 20000 in
theorem f_X6_prepare_1 (hf : ¬ sI S 38 5 = 0) : Cn l D ad tc L xs mX6_prepare 3 73 [.ref 39] (wd S E, sl) none (wd S E, sl) := by
  refine cn_of (lv0 := [(0, .ref 39)]) (by decide +kernel) rfl (fun _ => by simp [lg_sl, j_v, Value.category]) (fun _ => rfl) ?_
  refine rn_aload_n dX6_prepare_0 rfl ?_
  refine rn_getfield dX6_prepare_1 fo_X6_28 h_paths rfl ?_
  refine rn_if_eq (tgt := 8) dX6_prepare_4 rfl (fun q1 => absurd q1 (by exact hf)) (fun _ => ?_)
  exact rn_ret dX6_prepare_7 trivial rfl
theorem f_prepare (hF : Fr S) : ∃ S', Fr S' ∧ Cn l D ad tc L xs mX6_prepare 3 73 [.ref 39] (wd S E, sl) none (wd S' E, sl) := by
  by_cases hf : sI S 38 5 = 0
  · exact ⟨_, Fr_I hF (by decide), f_X6_prepare_0 hF hf⟩
  · exact ⟨_, hF, f_X6_prepare_1 hf⟩
set_option maxRecDepth 20000 in
theorem f_X4_reckon (hF : Fr S) : Cn l D ad tc L xs mX4_reckon 2 45 [.ref 44] (wd S E, sl) none (wd S E, sl) := by
  refine cn_of (lv0 := [(0, .ref 44)]) (by decide +kernel) rfl (fun _ => by simp [lg_sl, j_v, Value.category]) (fun _ => rfl) ?_
  refine rn_iconst (v := 0) dX4_reckon_0 rfl ?_
  refine rn_istore_n dX4_reckon_1 (by decide) rfl ?_
  refine rn_iload_n dX4_reckon_2 rfl ?_
  refine rn_aload_n dX4_reckon_3 rfl ?_
  refine rn_getfield dX4_reckon_4 fo_X4_19 (h_del (Or.inl rfl)) rfl ?_
  refine rn_getfield dX4_reckon_7 fo_X4_30 h_chip rfl ?_
  refine rn_topi (y := 0) hF.1 ?_
  refine rn_icmp_ge (tgt := 37) dX4_reckon_10 rfl (fun _ => ?_) (fun q => absurd (by decide) q)
  refine rn_iconst (v := 0) dX4_reckon_37 rfl ?_
  refine rn_istore_n dX4_reckon_38 (by decide) rfl ?_
  refine rn_iload_n dX4_reckon_39 rfl ?_
  refine rn_aload_n dX4_reckon_40 rfl ?_
  refine rn_getfield dX4_reckon_41 fo_X4_19 (h_del (Or.inl rfl)) rfl ?_
  refine rn_getfield dX4_reckon_44 fo_X4_30 h_chip rfl ?_
  refine rn_topi (y := 0) hF.1 ?_
  refine rn_icmp_ge (tgt := 106) dX4_reckon_47 rfl (fun _ => ?_) (fun q => absurd (by decide) q)
  refine rn_iconst (v := 0) dX4_reckon_106 rfl ?_
  refine rn_istore_n dX4_reckon_107 (by decide) rfl ?_
  refine rn_iload_n dX4_reckon_108 rfl ?_
  refine rn_aload_n dX4_reckon_109 rfl ?_
  refine rn_getfield dX4_reckon_110 fo_X4_19 (h_del (Or.inl rfl)) rfl ?_
  refine rn_getfield dX4_reckon_113 fo_X4_30 h_chip rfl ?_
  refine rn_topi (y := 0) hF.1 ?_
  refine rn_icmp_ge (tgt := 150) dX4_reckon_116 rfl (fun _ => ?_) (fun q => absurd (by decide) q)
  exact rn_ret dX4_reckon_150 trivial rfl
set_option maxRecDepth 20000 in
theorem f_X4_prepare_0 (hF : Fr S) (hf : sI S 43 3 = 0) : Cn l D ad tc L xs mX4_prepare 3 68 [.ref 44] (wd S E, sl) none (wd (pI S 43 3 1) E, sl) := by
  refine cn_of (lv0 := [(0, .ref 44)]) (by decide +kernel) rfl (fun _ => by simp [lg_sl, j_v, Value.category]) (fun _ => rfl) ?_
  refine rn_aload_n dX4_prepare_0 rfl ?_
  refine rn_getfield dX4_prepare_1 fo_X4_23 (h_del (Or.inl rfl)) rfl ?_
  refine rn_if_ne (tgt := 16) dX4_prepare_4 rfl (fun q1 => absurd q1 (by exact fun z => z hf)) (fun _ => ?_)
  refine rn_aload_n dX4_prepare_7 rfl ?_
  refine rn_callV dX4_prepare_8 cv_X4_27 (f_X4_reckon hF) rfl (h_del (Or.inl rfl)) rfl rfl (by decide) (by decide) rfl (Nat.le_of_ble_eq_true rfl) ?_
  refine rn_aload_n dX4_prepare_11 rfl ?_
  refine rn_iconst (v := 1) dX4_prepare_12 rfl ?_
  refine rn_pI (a := 43) dX4_prepare_13 fp_X4_23 (by decide) (cc_del (Or.inl rfl)) (cc_delI (Or.inl rfl)) (by simp) ⟨rfl, rfl⟩ ⟨_, _, _, rfl, rfl⟩ ?_
  exact rn_ret dX4_prepare_16 trivial rfl
set_option maxRecDepth 20000 in
theorem f_X4_prepare_1 (hf : ¬ sI S 43 3 = 0) : Cn l D ad tc L xs mX4_prepare 3 68 [.ref 44] (wd S E, sl) none (wd S E, sl) := by
  refine cn_of (lv0 := [(0, .ref 44)]) (by decide +kernel) rfl (fun _ => by simp [lg_sl, j_v, Value.category]) (fun _ => rfl) ?_
  refine rn_aload_n dX4_prepare_0 rfl ?_
  refine rn_getfield dX4_prepare_1 fo_X4_23 (h_del (Or.inl rfl)) rfl ?_
  refine rn_if_ne (tgt := 16) dX4_prepare_4 rfl (fun _ => ?_) (fun q1 => absurd q1 (by exact hf))
  exact rn_ret dX4_prepare_16 trivial rfl
theorem f_dprepare (hF : Fr S) : ∃ S', Fr S' ∧ Cn l D ad tc L xs mX4_prepare 3 68 [.ref 44] (wd S E, sl) none (wd S' E, sl) := by
  by_cases hf : sI S 43 3 = 0
  · exact ⟨_, Fr_I hF (by decide), f_X4_prepare_0 hF hf⟩
  · exact ⟨_, hF, f_X4_prepare_1 hf⟩
set_option maxRecDepth 20000 in
theorem f_X8_reckon {j : Nat} (hj : j < 7) (hF : Fr S) : Cn l D ad tc L xs mX8_reckon 3 84 [.ref (5 * j + 50), .ref 11] (wd S E, sl) none (wd (pI S (5 * j + 49) 8 1) E, sl) := by
  refine cn_of (lv0 := [(0, .ref (5 * j + 50)), (1, .ref 11)]) (by decide +kernel) rfl (fun _ => by simp [lg_sl, j_v, Value.category]) (fun _ => rfl) ?_
  refine rn_iconst (v := 0) dX8_reckon_0 rfl ?_
  refine rn_istore_n dX8_reckon_1 (by decide) rfl ?_
  refine rn_iload_n dX8_reckon_2 rfl ?_
  refine rn_aload_n dX8_reckon_3 rfl ?_
  refine rn_getfield dX8_reckon_4 fo_X8_24 (h_tim (by omega)) rfl ?_
  refine rn_getfield dX8_reckon_7 fo_X8_40 h_chip rfl ?_
  refine rn_topi (y := 0) hF.1 ?_
  refine rn_icmp_ge (tgt := 80) dX8_reckon_10 rfl (fun _ => ?_) (fun q => absurd (by decide) q)
  refine rn_iconst (v := 0) dX8_reckon_80 rfl ?_
  refine rn_istore_n dX8_reckon_81 (by decide) rfl ?_
  refine rn_iload_n dX8_reckon_82 rfl ?_
  refine rn_aload_n dX8_reckon_83 rfl ?_
  refine rn_getfield dX8_reckon_84 fo_X8_24 (h_tim (by omega)) rfl ?_
  refine rn_getfield dX8_reckon_87 fo_X8_40 h_chip rfl ?_
  refine rn_topi (y := 0) hF.1 ?_
  refine rn_icmp_ge (tgt := 139) dX8_reckon_90 rfl (fun _ => ?_) (fun q => absurd (by decide) q)
  refine rn_aload_n dX8_reckon_139 rfl ?_
  refine rn_iconst (v := 1) dX8_reckon_140 rfl ?_
  refine rn_pI (a := 5 * j + 49) dX8_reckon_141 fp_X8_72 (by omega) cc_tim cc_timI (by simp) ⟨rfl, rfl⟩ ⟨_, _, _, rfl, rfl⟩ ?_
  exact rn_ret dX8_reckon_144 trivial rfl
set_option maxRecDepth 20000 in
theorem f_X8_leastOfEnds {j : Nat} (hj : j < 7) (hF : Fr S) : Cn l D ad tc L xs mX8_leastOfEnds 1 23 [.ref (5 * j + 50)] (wd S E, sl) (some (.double (dv 409595904))) (wd S E, sl) := by
  refine cn_of (lv0 := [(0, .ref (5 * j + 50))]) (by decide +kernel) rfl (fun _ => by simp [lg_sl, j_v, Value.category]) (fun _ => rfl) ?_
  refine rn_dcon (n := 0) (m := 409595904) dX8_leastOfEnds_0 wd_339 (by decide +kernel) ?_
  refine rn_dstore_n dX8_leastOfEnds_3 (by decide) rfl ?_
  refine rn_iconst (v := 0) dX8_leastOfEnds_4 rfl ?_
  refine rn_istore_n dX8_leastOfEnds_5 (by decide) rfl ?_
  refine rn_iload_n dX8_leastOfEnds_6 rfl ?_
  refine rn_aload_n dX8_leastOfEnds_7 rfl ?_
  refine rn_getfield dX8_leastOfEnds_8 fo_X8_24 (h_tim (by omega)) rfl ?_
  refine rn_getfield dX8_leastOfEnds_11 fo_X8_40 h_chip rfl ?_
  refine rn_topi (y := 0) hF.1 ?_
  refine rn_icmp_ge (tgt := 45) dX8_leastOfEnds_14 rfl (fun _ => ?_) (fun q => absurd (by decide) q)
  refine rn_dload_n dX8_leastOfEnds_45 rfl ?_
  exact rn_ret dX8_leastOfEnds_46 trivial rfl
theorem f_paths (hF : Fr S) : ∃ S', Fr S' ∧ Cn l D ad tc L xs mX0_paths 4 96 [.ref 36] (wd S E, sl) (some (.ref 39)) (wd S' E, sl) := by
  obtain ⟨S', h', hc⟩ := f_prepare (l := l) (D := D) (ad := ad) (tc := tc) (L := L) (xs := xs) (E := E) (sl := sl) hF
  refine ⟨S', h', ?_⟩
  refine cn_of (lv0 := [(0, .ref 36)]) (by decide +kernel) ⟨_, rfl, Or.inl ⟨_, rfl⟩⟩ (fun _ => by simp [lg_sl, j_v, Value.category]) (fun _ => rfl) ?_
  refine rn_aload_n dX0_paths_0 rfl ?_
  refine rn_getfield dX0_paths_1 fo_X0_29 h_an rfl ?_
  refine rn_callV dX0_paths_4 cv_X0_56 hc rfl h_paths rfl rfl (by decide) (by decide) rfl (Nat.le_of_ble_eq_true rfl) ?_
  refine rn_aload_n dX0_paths_7 rfl ?_
  refine rn_getfield dX0_paths_8 fo_X0_29 h_an rfl ?_
  exact rn_ret dX0_paths_11 trivial rfl
set_option maxRecDepth 20000 in
theorem f_timing_1 (hF : Fr S) : ∃ S', Fr S' ∧ Cn l D ad tc L xs mX0_timing 4 107 [.ref 36, .int 0, .int 1] (wd S E, sl) (some (.ref (5 * 1 + 50))) (wd S' E, sl) := by
  obtain ⟨S1, h1, c1⟩ := f_prepare (l := l) (D := D) (ad := ad) (tc := tc) (L := L) (xs := xs) (E := E) (sl := sl) hF
  obtain ⟨S2, h2, c2⟩ := f_dprepare (l := l) (D := D) (ad := ad) (tc := tc) (L := L) (xs := xs) (E := E) (sl := sl) h1
  by_cases hf : sI S2 (5 * 1 + 49) 8 = 0
  · refine ⟨pI S2 (5 * 1 + 49) 8 1, Fr_I h2 (by decide), ?_⟩
    refine cn_of (lv0 := [(0, .ref 36), (1, .int 0), (2, .int 1)]) (by decide +kernel) ⟨_, rfl, Or.inl ⟨_, rfl⟩⟩ (fun _ => by simp [lg_sl, j_v, Value.category]) (fun _ => rfl) ?_
    refine rn_aload_n dX0_timing_0 rfl ?_
    refine rn_getfield dX0_timing_1 fo_X0_29 h_an rfl ?_
    refine rn_callV dX0_timing_4 cv_X0_56 c1 rfl h_paths rfl rfl (by decide) (by decide) rfl (Nat.le_of_ble_eq_true rfl) ?_
    refine rn_aload_n dX0_timing_7 rfl ?_
    refine rn_getfield dX0_timing_8 fo_X0_36 h_an rfl ?_
    refine rn_callV dX0_timing_11 cv_X0_59 c2 rfl (h_del (Or.inl rfl)) rfl rfl (by decide) (by decide) rfl (Nat.le_of_ble_eq_true rfl) ?_
    refine rn_iload_n dX0_timing_14 rfl ?_
    refine rn_if_eq (tgt := 27) dX0_timing_15 rfl (fun q => absurd q (by decide)) (fun _ => ?_)
    refine rn_aload_n dX0_timing_18 rfl ?_
    refine rn_getfield dX0_timing_19 fo_X0_11 h_an rfl ?_
    refine rn_iload_n dX0_timing_22 rfl ?_
    refine rn_aaload (b := 55) dX0_timing_23 h_lates rfl (by unfold vp_in; decide) rfl ?_
    refine rn_topr (y := 5 * 1 + 50) rfl ?_
    refine rn_goto (tgt := 33) dX0_timing_24 rfl ?_
    refine rn_astore_n dX0_timing_33 (by decide) rfl ?_
    refine rn_aload_n dX0_timing_34 rfl ?_
    refine rn_getfield dX0_timing_35 fo_X0_55 (h_tim (by omega)) rfl ?_
    refine rn_if_ne (tgt := 54) dX0_timing_38 rfl (fun q1 => absurd q1 (by exact fun z => z hf)) (fun _ => ?_)
    refine rn_aload_n dX0_timing_41 rfl ?_
    refine rn_aload_n dX0_timing_42 rfl ?_
    refine rn_getfield dX0_timing_43 fo_X0_20 h_an rfl ?_
    refine rn_getfield dX0_timing_46 fo_X0_60 h_chip rfl ?_
    refine rn_iload_n dX0_timing_49 rfl ?_
    refine rn_aaload (b := 11) dX0_timing_50 h_corners rfl (by unfold vp_in; decide) rfl ?_
    refine rn_callV dX0_timing_51 cv_X0_66 (f_X8_reckon (j := 1) (by decide) h2) rfl (h_tim (by omega)) rfl rfl (by decide) (by decide) rfl (Nat.le_of_ble_eq_true rfl) ?_
    refine rn_aload_n dX0_timing_54 rfl ?_
    exact rn_ret dX0_timing_55 trivial rfl
  · refine ⟨S2, h2, ?_⟩
    refine cn_of (lv0 := [(0, .ref 36), (1, .int 0), (2, .int 1)]) (by decide +kernel) ⟨_, rfl, Or.inl ⟨_, rfl⟩⟩ (fun _ => by simp [lg_sl, j_v, Value.category]) (fun _ => rfl) ?_
    refine rn_aload_n dX0_timing_0 rfl ?_
    refine rn_getfield dX0_timing_1 fo_X0_29 h_an rfl ?_
    refine rn_callV dX0_timing_4 cv_X0_56 c1 rfl h_paths rfl rfl (by decide) (by decide) rfl (Nat.le_of_ble_eq_true rfl) ?_
    refine rn_aload_n dX0_timing_7 rfl ?_
    refine rn_getfield dX0_timing_8 fo_X0_36 h_an rfl ?_
    refine rn_callV dX0_timing_11 cv_X0_59 c2 rfl (h_del (Or.inl rfl)) rfl rfl (by decide) (by decide) rfl (Nat.le_of_ble_eq_true rfl) ?_
    refine rn_iload_n dX0_timing_14 rfl ?_
    refine rn_if_eq (tgt := 27) dX0_timing_15 rfl (fun q => absurd q (by decide)) (fun _ => ?_)
    refine rn_aload_n dX0_timing_18 rfl ?_
    refine rn_getfield dX0_timing_19 fo_X0_11 h_an rfl ?_
    refine rn_iload_n dX0_timing_22 rfl ?_
    refine rn_aaload (b := 55) dX0_timing_23 h_lates rfl (by unfold vp_in; decide) rfl ?_
    refine rn_topr (y := 5 * 1 + 50) rfl ?_
    refine rn_goto (tgt := 33) dX0_timing_24 rfl ?_
    refine rn_astore_n dX0_timing_33 (by decide) rfl ?_
    refine rn_aload_n dX0_timing_34 rfl ?_
    refine rn_getfield dX0_timing_35 fo_X0_55 (h_tim (by omega)) rfl ?_
    refine rn_if_ne (tgt := 54) dX0_timing_38 rfl (fun _ => ?_) (fun q1 => absurd q1 (by exact hf))
    refine rn_aload_n dX0_timing_54 rfl ?_
    exact rn_ret dX0_timing_55 trivial rfl
set_option maxRecDepth 20000 in
theorem f_timing_0 (hF : Fr S) : ∃ S', Fr S' ∧ Cn l D ad tc L xs mX0_timing 4 107 [.ref 36, .int 0, .int 0] (wd S E, sl) (some (.ref (5 * 2 + 50))) (wd S' E, sl) := by
  obtain ⟨S1, h1, c1⟩ := f_prepare (l := l) (D := D) (ad := ad) (tc := tc) (L := L) (xs := xs) (E := E) (sl := sl) hF
  obtain ⟨S2, h2, c2⟩ := f_dprepare (l := l) (D := D) (ad := ad) (tc := tc) (L := L) (xs := xs) (E := E) (sl := sl) h1
  by_cases hf : sI S2 (5 * 2 + 49) 8 = 0
  · refine ⟨pI S2 (5 * 2 + 49) 8 1, Fr_I h2 (by decide), ?_⟩
    refine cn_of (lv0 := [(0, .ref 36), (1, .int 0), (2, .int 0)]) (by decide +kernel) ⟨_, rfl, Or.inl ⟨_, rfl⟩⟩ (fun _ => by simp [lg_sl, j_v, Value.category]) (fun _ => rfl) ?_
    refine rn_aload_n dX0_timing_0 rfl ?_
    refine rn_getfield dX0_timing_1 fo_X0_29 h_an rfl ?_
    refine rn_callV dX0_timing_4 cv_X0_56 c1 rfl h_paths rfl rfl (by decide) (by decide) rfl (Nat.le_of_ble_eq_true rfl) ?_
    refine rn_aload_n dX0_timing_7 rfl ?_
    refine rn_getfield dX0_timing_8 fo_X0_36 h_an rfl ?_
    refine rn_callV dX0_timing_11 cv_X0_59 c2 rfl (h_del (Or.inl rfl)) rfl rfl (by decide) (by decide) rfl (Nat.le_of_ble_eq_true rfl) ?_
    refine rn_iload_n dX0_timing_14 rfl ?_
    refine rn_if_eq (tgt := 27) dX0_timing_15 rfl (fun _ => ?_) (fun q => absurd (by decide) q)
    refine rn_aload_n dX0_timing_27 rfl ?_
    refine rn_getfield dX0_timing_28 fo_X0_17 h_an rfl ?_
    refine rn_iload_n dX0_timing_31 rfl ?_
    refine rn_aaload (b := 60) dX0_timing_32 h_earlies rfl (by unfold vp_in; decide) rfl ?_
    refine rn_topr (y := 5 * 2 + 50) rfl ?_
    refine rn_astore_n dX0_timing_33 (by decide) rfl ?_
    refine rn_aload_n dX0_timing_34 rfl ?_
    refine rn_getfield dX0_timing_35 fo_X0_55 (h_tim (by omega)) rfl ?_
    refine rn_if_ne (tgt := 54) dX0_timing_38 rfl (fun q1 => absurd q1 (by exact fun z => z hf)) (fun _ => ?_)
    refine rn_aload_n dX0_timing_41 rfl ?_
    refine rn_aload_n dX0_timing_42 rfl ?_
    refine rn_getfield dX0_timing_43 fo_X0_20 h_an rfl ?_
    refine rn_getfield dX0_timing_46 fo_X0_60 h_chip rfl ?_
    refine rn_iload_n dX0_timing_49 rfl ?_
    refine rn_aaload (b := 11) dX0_timing_50 h_corners rfl (by unfold vp_in; decide) rfl ?_
    refine rn_callV dX0_timing_51 cv_X0_66 (f_X8_reckon (j := 2) (by decide) h2) rfl (h_tim (by omega)) rfl rfl (by decide) (by decide) rfl (Nat.le_of_ble_eq_true rfl) ?_
    refine rn_aload_n dX0_timing_54 rfl ?_
    exact rn_ret dX0_timing_55 trivial rfl
  · refine ⟨S2, h2, ?_⟩
    refine cn_of (lv0 := [(0, .ref 36), (1, .int 0), (2, .int 0)]) (by decide +kernel) ⟨_, rfl, Or.inl ⟨_, rfl⟩⟩ (fun _ => by simp [lg_sl, j_v, Value.category]) (fun _ => rfl) ?_
    refine rn_aload_n dX0_timing_0 rfl ?_
    refine rn_getfield dX0_timing_1 fo_X0_29 h_an rfl ?_
    refine rn_callV dX0_timing_4 cv_X0_56 c1 rfl h_paths rfl rfl (by decide) (by decide) rfl (Nat.le_of_ble_eq_true rfl) ?_
    refine rn_aload_n dX0_timing_7 rfl ?_
    refine rn_getfield dX0_timing_8 fo_X0_36 h_an rfl ?_
    refine rn_callV dX0_timing_11 cv_X0_59 c2 rfl (h_del (Or.inl rfl)) rfl rfl (by decide) (by decide) rfl (Nat.le_of_ble_eq_true rfl) ?_
    refine rn_iload_n dX0_timing_14 rfl ?_
    refine rn_if_eq (tgt := 27) dX0_timing_15 rfl (fun _ => ?_) (fun q => absurd (by decide) q)
    refine rn_aload_n dX0_timing_27 rfl ?_
    refine rn_getfield dX0_timing_28 fo_X0_17 h_an rfl ?_
    refine rn_iload_n dX0_timing_31 rfl ?_
    refine rn_aaload (b := 60) dX0_timing_32 h_earlies rfl (by unfold vp_in; decide) rfl ?_
    refine rn_topr (y := 5 * 2 + 50) rfl ?_
    refine rn_astore_n dX0_timing_33 (by decide) rfl ?_
    refine rn_aload_n dX0_timing_34 rfl ?_
    refine rn_getfield dX0_timing_35 fo_X0_55 (h_tim (by omega)) rfl ?_
    refine rn_if_ne (tgt := 54) dX0_timing_38 rfl (fun _ => ?_) (fun q1 => absurd q1 (by exact hf))
    refine rn_aload_n dX0_timing_54 rfl ?_
    exact rn_ret dX0_timing_55 trivial rfl
set_option maxRecDepth 20000 in
theorem f_leastOfAll_1 (hF : Fr S) : ∃ S', Fr S' ∧ Cn l D ad tc L xs mX0_leastOfAll 5 130 [.ref 36, .int 1] (wd S E, sl) (some (.double (dv 409595904))) (wd S' E, sl) := by
  obtain ⟨S1, h1, c1⟩ := f_timing_1 (l := l) (D := D) (ad := ad) (tc := tc) (L := L) (xs := xs) (E := E) (sl := sl) hF
  refine ⟨S1, h1, ?_⟩
  have hF1 := hF
  refine cn_of (lv0 := [(0, .ref 36), (1, .int 1)]) (by decide +kernel) rfl (fun _ => by simp [lg_sl, j_v, Value.category]) (fun _ => rfl) ?_
  refine rn_dcon (n := 0) (m := 409595904) dX0_leastOfAll_0 wd_44 (by decide +kernel) ?_
  refine rn_dstore_n dX0_leastOfAll_3 (by decide) rfl ?_
  refine rn_iconst (v := 0) dX0_leastOfAll_4 rfl ?_
  refine rn_istore dX0_leastOfAll_5 (by decide) rfl ?_
  refine rn_iload dX0_leastOfAll_7 rfl ?_
  refine rn_aload_n dX0_leastOfAll_9 rfl ?_
  refine rn_getfield dX0_leastOfAll_10 fo_X0_20 h_an rfl ?_
  refine rn_getfield dX0_leastOfAll_13 fo_X0_72 h_chip rfl ?_
  refine rn_topi (y := 1) (by first | exact hF.2.1 | exact h1.2.1) ?_
  refine rn_icmp_ge (tgt := 40) dX0_leastOfAll_16 rfl (fun q => absurd q (by decide)) (fun _ => ?_)
  refine rn_dload_n dX0_leastOfAll_19 rfl ?_
  refine rn_aload_n dX0_leastOfAll_20 rfl ?_
  refine rn_iload dX0_leastOfAll_21 rfl ?_
  refine rn_iload_n dX0_leastOfAll_23 rfl ?_
  refine rn_callV dX0_leastOfAll_24 cv_X0_76 c1 rfl h_an rfl rfl (by decide) (by decide) rfl (Nat.le_of_ble_eq_true rfl) ?_
  refine rn_callV dX0_leastOfAll_27 cv_X0_80 (f_X8_leastOfEnds (j := 1) (by decide) h1) rfl (h_tim (by omega)) rfl rfl (by decide) (by decide) rfl (Nat.le_of_ble_eq_true rfl) ?_
  refine rn_callSN dX0_leastOfAll_30 csn_X0_84 (c_X9_smaller (a := 409595904) (b := 409595904) (dB_of (by decide) (by decide)) (dB_of (by decide) (by decide))) rfl (by decide) (by decide) rfl (Nat.le_of_ble_eq_true rfl) ?_
  refine rn_dstore_n dX0_leastOfAll_33 (by decide) rfl ?_
  refine rn_iinc (v := 1) dX0_leastOfAll_34 rfl (by decide) (by decide) rfl ?_
  refine rn_goto (tgt := 7) dX0_leastOfAll_37 rfl ?_
  refine rn_iload dX0_leastOfAll_7 rfl ?_
  refine rn_aload_n dX0_leastOfAll_9 rfl ?_
  refine rn_getfield dX0_leastOfAll_10 fo_X0_20 h_an rfl ?_
  refine rn_getfield dX0_leastOfAll_13 fo_X0_72 h_chip rfl ?_
  refine rn_topi (y := 1) (by first | exact hF.2.1 | exact h1.2.1) ?_
  refine rn_icmp_ge (tgt := 40) dX0_leastOfAll_16 rfl (fun _ => ?_) (fun q => absurd (by decide) q)
  refine rn_dload_n dX0_leastOfAll_40 rfl ?_
  exact rn_ret dX0_leastOfAll_41 trivial rfl
set_option maxRecDepth 20000 in
theorem f_leastOfAll_0 (hF : Fr S) : ∃ S', Fr S' ∧ Cn l D ad tc L xs mX0_leastOfAll 5 130 [.ref 36, .int 0] (wd S E, sl) (some (.double (dv 409595904))) (wd S' E, sl) := by
  obtain ⟨S1, h1, c1⟩ := f_timing_0 (l := l) (D := D) (ad := ad) (tc := tc) (L := L) (xs := xs) (E := E) (sl := sl) hF
  refine ⟨S1, h1, ?_⟩
  have hF1 := hF
  refine cn_of (lv0 := [(0, .ref 36), (1, .int 0)]) (by decide +kernel) rfl (fun _ => by simp [lg_sl, j_v, Value.category]) (fun _ => rfl) ?_
  refine rn_dcon (n := 0) (m := 409595904) dX0_leastOfAll_0 wd_44 (by decide +kernel) ?_
  refine rn_dstore_n dX0_leastOfAll_3 (by decide) rfl ?_
  refine rn_iconst (v := 0) dX0_leastOfAll_4 rfl ?_
  refine rn_istore dX0_leastOfAll_5 (by decide) rfl ?_
  refine rn_iload dX0_leastOfAll_7 rfl ?_
  refine rn_aload_n dX0_leastOfAll_9 rfl ?_
  refine rn_getfield dX0_leastOfAll_10 fo_X0_20 h_an rfl ?_
  refine rn_getfield dX0_leastOfAll_13 fo_X0_72 h_chip rfl ?_
  refine rn_topi (y := 1) (by first | exact hF.2.1 | exact h1.2.1) ?_
  refine rn_icmp_ge (tgt := 40) dX0_leastOfAll_16 rfl (fun q => absurd q (by decide)) (fun _ => ?_)
  refine rn_dload_n dX0_leastOfAll_19 rfl ?_
  refine rn_aload_n dX0_leastOfAll_20 rfl ?_
  refine rn_iload dX0_leastOfAll_21 rfl ?_
  refine rn_iload_n dX0_leastOfAll_23 rfl ?_
  refine rn_callV dX0_leastOfAll_24 cv_X0_76 c1 rfl h_an rfl rfl (by decide) (by decide) rfl (Nat.le_of_ble_eq_true rfl) ?_
  refine rn_callV dX0_leastOfAll_27 cv_X0_80 (f_X8_leastOfEnds (j := 2) (by decide) h1) rfl (h_tim (by omega)) rfl rfl (by decide) (by decide) rfl (Nat.le_of_ble_eq_true rfl) ?_
  refine rn_callSN dX0_leastOfAll_30 csn_X0_84 (c_X9_smaller (a := 409595904) (b := 409595904) (dB_of (by decide) (by decide)) (dB_of (by decide) (by decide))) rfl (by decide) (by decide) rfl (Nat.le_of_ble_eq_true rfl) ?_
  refine rn_dstore_n dX0_leastOfAll_33 (by decide) rfl ?_
  refine rn_iinc (v := 1) dX0_leastOfAll_34 rfl (by decide) (by decide) rfl ?_
  refine rn_goto (tgt := 7) dX0_leastOfAll_37 rfl ?_
  refine rn_iload dX0_leastOfAll_7 rfl ?_
  refine rn_aload_n dX0_leastOfAll_9 rfl ?_
  refine rn_getfield dX0_leastOfAll_10 fo_X0_20 h_an rfl ?_
  refine rn_getfield dX0_leastOfAll_13 fo_X0_72 h_chip rfl ?_
  refine rn_topi (y := 1) (by first | exact hF.2.1 | exact h1.2.1) ?_
  refine rn_icmp_ge (tgt := 40) dX0_leastOfAll_16 rfl (fun _ => ?_) (fun q => absurd (by decide) q)
  refine rn_dload_n dX0_leastOfAll_40 rfl ?_
  exact rn_ret dX0_leastOfAll_41 trivial rfl
set_option maxRecDepth 20000 in
theorem f_X0_endsInNeed {b : Int32} (hF : Fr S) : Cn l D ad tc L xs mX0_endsInNeed 5 130 [.ref 36, .int b] (wd S E, sl) (some (.int 0)) (wd S E, sl) := by
  refine cn_of (lv0 := [(0, .ref 36), (1, .int b)]) (by decide +kernel) ⟨_, rfl, rfl⟩ (fun _ => by simp [lg_sl, j_v, Value.category]) (fun _ => rfl) ?_
  refine rn_iconst (v := 0) dX0_endsInNeed_0 rfl ?_
  refine rn_istore_n dX0_endsInNeed_1 (by decide) rfl ?_
  refine rn_iconst (v := 0) dX0_endsInNeed_2 rfl ?_
  refine rn_istore_n dX0_endsInNeed_3 (by decide) rfl ?_
  refine rn_iload_n dX0_endsInNeed_4 rfl ?_
  refine rn_aload_n dX0_endsInNeed_5 rfl ?_
  refine rn_getfield dX0_endsInNeed_6 fo_X0_20 h_an rfl ?_
  refine rn_getfield dX0_endsInNeed_9 fo_X0_88 h_chip rfl ?_
  refine rn_topi (y := 0) hF.1 ?_
  refine rn_icmp_ge (tgt := 101) dX0_endsInNeed_12 rfl (fun _ => ?_) (fun q => absurd (by decide) q)
  refine rn_iload_n dX0_endsInNeed_101 rfl ?_
  exact rn_ret dX0_endsInNeed_102 trivial rfl
set_option maxRecDepth 20000 in
theorem f_X6_checkedPairs (hF : Fr S) : Cn l D ad tc L xs mX6_checkedPairs 1 20 [.ref 39] (wd S E, sl) (some (.int 0)) (wd S E, sl) := by
  refine cn_of (lv0 := [(0, .ref 39)]) (by decide +kernel) ⟨_, rfl, rfl⟩ (fun _ => by simp [lg_sl, j_v, Value.category]) (fun _ => rfl) ?_
  refine rn_iconst (v := 0) dX6_checkedPairs_0 rfl ?_
  refine rn_istore_n dX6_checkedPairs_1 (by decide) rfl ?_
  refine rn_iconst (v := 0) dX6_checkedPairs_2 rfl ?_
  refine rn_istore_n dX6_checkedPairs_3 (by decide) rfl ?_
  refine rn_iload_n dX6_checkedPairs_4 rfl ?_
  refine rn_aload_n dX6_checkedPairs_5 rfl ?_
  refine rn_getfield dX6_checkedPairs_6 fo_X6_24 h_paths rfl ?_
  refine rn_getfield dX6_checkedPairs_9 fo_X6_32 h_chip rfl ?_
  refine rn_topi (y := 0) hF.1 ?_
  refine rn_icmp_ge (tgt := 33) dX6_checkedPairs_12 rfl (fun _ => ?_) (fun q => absurd (by decide) q)
  refine rn_iload_n dX6_checkedPairs_33 rfl ?_
  exact rn_ret dX6_checkedPairs_34 trivial rfl
set_option maxRecDepth 20000 in
theorem f_X6_crossings {b : Int32} (hF : Fr S) : Cn l D ad tc L xs mX6_crossings 2 45 [.ref 39, .int b] (wd S E, sl) (some (.int 0)) (wd S E, sl) := by
  refine cn_of (lv0 := [(0, .ref 39), (1, .int b)]) (by decide +kernel) ⟨_, rfl, rfl⟩ (fun _ => by simp [lg_sl, j_v, Value.category]) (fun _ => rfl) ?_
  refine rn_iconst (v := 0) dX6_crossings_0 rfl ?_
  refine rn_istore_n dX6_crossings_1 (by decide) rfl ?_
  refine rn_iconst (v := 0) dX6_crossings_2 rfl ?_
  refine rn_istore_n dX6_crossings_3 (by decide) rfl ?_
  refine rn_iload_n dX6_crossings_4 rfl ?_
  refine rn_aload_n dX6_crossings_5 rfl ?_
  refine rn_getfield dX6_crossings_6 fo_X6_24 h_paths rfl ?_
  refine rn_getfield dX6_crossings_9 fo_X6_32 h_chip rfl ?_
  refine rn_topi (y := 0) hF.1 ?_
  refine rn_icmp_ge (tgt := 82) dX6_crossings_12 rfl (fun _ => ?_) (fun q => absurd (by decide) q)
  refine rn_iload_n dX6_crossings_82 rfl ?_
  exact rn_ret dX6_crossings_83 trivial rfl
set_option maxRecDepth 20000 in
theorem f_bestChange (hF : Fr S) : ∃ S', Fr S' ∧ Cn l D ad tc L xs mX0_bestChange 6 154 [.ref 36] (wd S E, sl) (some (.int (-1))) (wd S' E, sl) := by
  obtain ⟨S1, h1, c1⟩ := f_leastOfAll_1 (l := l) (D := D) (ad := ad) (tc := tc) (L := L) (xs := xs) (E := E) (sl := sl) hF
  refine ⟨S1, h1, ?_⟩
  refine cn_of (lv0 := [(0, .ref 36)]) (by decide +kernel) ⟨_, rfl, rfl⟩ (fun _ => by simp [lg_sl, j_v, Value.category]) (fun _ => rfl) ?_
  refine rn_aload_n dX0_bestChange_0 rfl ?_
  refine rn_iconst (v := 1) dX0_bestChange_1 rfl ?_
  refine rn_callV dX0_bestChange_2 cv_X0_110 c1 rfl h_an rfl rfl (by decide) (by decide) rfl (Nat.le_of_ble_eq_true rfl) ?_
  refine rn_dstore_n dX0_bestChange_5 (by decide) rfl ?_
  refine rn_iconst (v := (-1)) dX0_bestChange_6 rfl ?_
  refine rn_istore_n dX0_bestChange_7 (by decide) rfl ?_
  refine rn_iconst (v := 0) dX0_bestChange_8 rfl ?_
  refine rn_istore dX0_bestChange_9 (by decide) rfl ?_
  refine rn_iload dX0_bestChange_11 rfl ?_
  refine rn_aload_n dX0_bestChange_13 rfl ?_
  refine rn_getfield dX0_bestChange_14 fo_X0_20 h_an rfl ?_
  refine rn_getfield dX0_bestChange_17 fo_X0_88 h_chip rfl ?_
  refine rn_topi (y := 0) h1.1 ?_
  refine rn_icmp_ge (tgt := 97) dX0_bestChange_20 rfl (fun _ => ?_) (fun q => absurd (by decide) q)
  refine rn_iload_n dX0_bestChange_97 rfl ?_
  exact rn_ret dX0_bestChange_98 trivial rfl
set_option maxRecDepth 20000 in
theorem f_many_0 (hF : Fr S) : ∃ S', Fr S' ∧ Cn l D ad tc L xs mX9_many 6 155 [.ref 1, .int 0] (wd S E, sl) (some (.int 0)) (wd S' E, sl) := by
  refine ⟨S, hF, ?_⟩
  refine cn_of (lv0 := [(0, .ref 1), (1, .int 0)]) (by decide +kernel) ⟨_, rfl, rfl⟩ (fun _ => by simp [lg_sl, j_v, Value.category]) (fun _ => rfl) ?_
  refine rn_iload_n dX9_many_0 rfl ?_
  refine rn_iconst (v := 0) dX9_many_1 rfl ?_
  refine rn_bipush (v := 10) dX9_many_2 rfl ?_
  refine rn_callS dX9_many_4 cs_X9_33 c_X9_isIn rfl (by decide) (by decide) rfl (Nat.le_of_ble_eq_true rfl) ?_
  refine rn_topi (y := 1) (by decide) ?_
  refine rn_callS dX9_many_7 cs_X9_37 (c_X9_mustFit (by decide)) rfl (by decide) (by decide) rfl (Nat.le_of_ble_eq_true rfl) ?_
  refine rn_iload_n dX9_many_10 rfl ?_
  refine rn_tableIn (tgt := 64) dX9_many_11 (by decide) (by decide) rfl rfl ?_
  refine rn_aload_n dX9_many_64 rfl ?_
  refine rn_getfield dX9_many_65 fo_X9_12 h_SH rfl ?_
  refine rn_getfield dX9_many_68 fo_X9_25 h_chip rfl ?_
  refine rn_topi (y := 0) hF.2.2.1 ?_
  exact rn_ret dX9_many_71 trivial rfl
set_option maxRecDepth 20000 in
theorem f_many_1 (hF : Fr S) : ∃ S', Fr S' ∧ Cn l D ad tc L xs mX9_many 6 155 [.ref 1, .int 1] (wd S E, sl) (some (.int 1)) (wd S' E, sl) := by
  refine ⟨S, hF, ?_⟩
  refine cn_of (lv0 := [(0, .ref 1), (1, .int 1)]) (by decide +kernel) ⟨_, rfl, rfl⟩ (fun _ => by simp [lg_sl, j_v, Value.category]) (fun _ => rfl) ?_
  refine rn_iload_n dX9_many_0 rfl ?_
  refine rn_iconst (v := 0) dX9_many_1 rfl ?_
  refine rn_bipush (v := 10) dX9_many_2 rfl ?_
  refine rn_callS dX9_many_4 cs_X9_33 c_X9_isIn rfl (by decide) (by decide) rfl (Nat.le_of_ble_eq_true rfl) ?_
  refine rn_topi (y := 1) (by decide) ?_
  refine rn_callS dX9_many_7 cs_X9_37 (c_X9_mustFit (by decide)) rfl (by decide) (by decide) rfl (Nat.le_of_ble_eq_true rfl) ?_
  refine rn_iload_n dX9_many_10 rfl ?_
  refine rn_tableIn (tgt := 72) dX9_many_11 (by decide) (by decide) rfl rfl ?_
  refine rn_aload_n dX9_many_72 rfl ?_
  refine rn_getfield dX9_many_73 fo_X9_12 h_SH rfl ?_
  refine rn_getfield dX9_many_76 fo_X9_75 h_chip rfl ?_
  refine rn_topi (y := 1) (by first | exact hF.2.1 | exact h1.2.1) ?_
  exact rn_ret dX9_many_79 trivial rfl
set_option maxRecDepth 20000 in
theorem f_many_2 (hF : Fr S) : ∃ S', Fr S' ∧ Cn l D ad tc L xs mX9_many 6 155 [.ref 1, .int 2] (wd S E, sl) (some (.int 0)) (wd S' E, sl) := by
  refine ⟨S, hF, ?_⟩
  refine cn_of (lv0 := [(0, .ref 1), (1, .int 2)]) (by decide +kernel) ⟨_, rfl, rfl⟩ (fun _ => by simp [lg_sl, j_v, Value.category]) (fun _ => rfl) ?_
  refine rn_iload_n dX9_many_0 rfl ?_
  refine rn_iconst (v := 0) dX9_many_1 rfl ?_
  refine rn_bipush (v := 10) dX9_many_2 rfl ?_
  refine rn_callS dX9_many_4 cs_X9_33 c_X9_isIn rfl (by decide) (by decide) rfl (Nat.le_of_ble_eq_true rfl) ?_
  refine rn_topi (y := 1) (by decide) ?_
  refine rn_callS dX9_many_7 cs_X9_37 (c_X9_mustFit (by decide)) rfl (by decide) (by decide) rfl (Nat.le_of_ble_eq_true rfl) ?_
  refine rn_iload_n dX9_many_10 rfl ?_
  refine rn_tableIn (tgt := 80) dX9_many_11 (by decide) (by decide) rfl rfl ?_
  refine rn_aload_n dX9_many_80 rfl ?_
  refine rn_getfield dX9_many_81 fo_X9_12 h_SH rfl ?_
  refine rn_getfield dX9_many_84 fo_X9_82 h_chip rfl ?_
  refine rn_topi (y := 0) hF.1 ?_
  exact rn_ret dX9_many_87 trivial rfl
set_option maxRecDepth 20000 in
theorem f_many_3 (hF : Fr S) : ∃ S', Fr S' ∧ Cn l D ad tc L xs mX9_many 6 155 [.ref 1, .int 3] (wd S E, sl) (some (.int 0)) (wd S' E, sl) := by
  refine ⟨S, hF, ?_⟩
  refine cn_of (lv0 := [(0, .ref 1), (1, .int 3)]) (by decide +kernel) ⟨_, rfl, rfl⟩ (fun _ => by simp [lg_sl, j_v, Value.category]) (fun _ => rfl) ?_
  refine rn_iload_n dX9_many_0 rfl ?_
  refine rn_iconst (v := 0) dX9_many_1 rfl ?_
  refine rn_bipush (v := 10) dX9_many_2 rfl ?_
  refine rn_callS dX9_many_4 cs_X9_33 c_X9_isIn rfl (by decide) (by decide) rfl (Nat.le_of_ble_eq_true rfl) ?_
  refine rn_topi (y := 1) (by decide) ?_
  refine rn_callS dX9_many_7 cs_X9_37 (c_X9_mustFit (by decide)) rfl (by decide) (by decide) rfl (Nat.le_of_ble_eq_true rfl) ?_
  refine rn_iload_n dX9_many_10 rfl ?_
  refine rn_tableIn (tgt := 88) dX9_many_11 (by decide) (by decide) rfl rfl ?_
  refine rn_aload_n dX9_many_88 rfl ?_
  refine rn_getfield dX9_many_89 fo_X9_12 h_SH rfl ?_
  refine rn_getfield dX9_many_92 fo_X9_128 h_chip rfl ?_
  refine rn_topi (y := 0) hF.2.2.2.1 ?_
  exact rn_ret dX9_many_95 trivial rfl
set_option maxRecDepth 20000 in
theorem f_many_4 (hF : Fr S) : ∃ S', Fr S' ∧ Cn l D ad tc L xs mX9_many 6 155 [.ref 1, .int 4] (wd S E, sl) (some (.int 0)) (wd S' E, sl) := by
  obtain ⟨S1, h1, c1⟩ := f_paths (l := l) (D := D) (ad := ad) (tc := tc) (L := L) (xs := xs) (E := E) (sl := sl) hF
  refine ⟨S1, h1, ?_⟩
  refine cn_of (lv0 := [(0, .ref 1), (1, .int 4)]) (by decide +kernel) ⟨_, rfl, rfl⟩ (fun _ => by simp [lg_sl, j_v, Value.category]) (fun _ => rfl) ?_
  refine rn_iload_n dX9_many_0 rfl ?_
  refine rn_iconst (v := 0) dX9_many_1 rfl ?_
  refine rn_bipush (v := 10) dX9_many_2 rfl ?_
  refine rn_callS dX9_many_4 cs_X9_33 c_X9_isIn rfl (by decide) (by decide) rfl (Nat.le_of_ble_eq_true rfl) ?_
  refine rn_topi (y := 1) (by decide) ?_
  refine rn_callS dX9_many_7 cs_X9_37 (c_X9_mustFit (by decide)) rfl (by decide) (by decide) rfl (Nat.le_of_ble_eq_true rfl) ?_
  refine rn_iload_n dX9_many_10 rfl ?_
  refine rn_tableIn (tgt := 96) dX9_many_11 (by decide) (by decide) rfl rfl ?_
  refine rn_aload_n dX9_many_96 rfl ?_
  refine rn_getfield dX9_many_97 fo_X9_21 h_SH rfl ?_
  refine rn_callV dX9_many_100 cv_X9_192 c1 rfl h_an rfl rfl (by decide) (by decide) rfl (Nat.le_of_ble_eq_true rfl) ?_
  refine rn_callV dX9_many_103 cv_X9_204 (f_X6_checkedPairs h1) rfl h_paths rfl rfl (by decide) (by decide) rfl (Nat.le_of_ble_eq_true rfl) ?_
  exact rn_ret dX9_many_106 trivial rfl
set_option maxRecDepth 20000 in
theorem f_many_5 (hF : Fr S) : ∃ S', Fr S' ∧ Cn l D ad tc L xs mX9_many 6 155 [.ref 1, .int 5] (wd S E, sl) (some (.int 0)) (wd S' E, sl) := by
  refine ⟨S, hF, ?_⟩
  refine cn_of (lv0 := [(0, .ref 1), (1, .int 5)]) (by decide +kernel) ⟨_, rfl, rfl⟩ (fun _ => by simp [lg_sl, j_v, Value.category]) (fun _ => rfl) ?_
  refine rn_iload_n dX9_many_0 rfl ?_
  refine rn_iconst (v := 0) dX9_many_1 rfl ?_
  refine rn_bipush (v := 10) dX9_many_2 rfl ?_
  refine rn_callS dX9_many_4 cs_X9_33 c_X9_isIn rfl (by decide) (by decide) rfl (Nat.le_of_ble_eq_true rfl) ?_
  refine rn_topi (y := 1) (by decide) ?_
  refine rn_callS dX9_many_7 cs_X9_37 (c_X9_mustFit (by decide)) rfl (by decide) (by decide) rfl (Nat.le_of_ble_eq_true rfl) ?_
  refine rn_iload_n dX9_many_10 rfl ?_
  refine rn_tableIn (tgt := 107) dX9_many_11 (by decide) (by decide) rfl rfl ?_
  refine rn_aload_n dX9_many_107 rfl ?_
  refine rn_getfield dX9_many_108 fo_X9_21 h_SH rfl ?_
  refine rn_iconst (v := 1) dX9_many_111 rfl ?_
  refine rn_callV dX9_many_112 cv_X9_208 (f_X0_endsInNeed hF) rfl h_an rfl rfl (by decide) (by decide) rfl (Nat.le_of_ble_eq_true rfl) ?_
  exact rn_ret dX9_many_115 trivial rfl
set_option maxRecDepth 20000 in
theorem f_many_6 (hF : Fr S) : ∃ S', Fr S' ∧ Cn l D ad tc L xs mX9_many 6 155 [.ref 1, .int 6] (wd S E, sl) (some (.int 0)) (wd S' E, sl) := by
  refine ⟨S, hF, ?_⟩
  refine cn_of (lv0 := [(0, .ref 1), (1, .int 6)]) (by decide +kernel) ⟨_, rfl, rfl⟩ (fun _ => by simp [lg_sl, j_v, Value.category]) (fun _ => rfl) ?_
  refine rn_iload_n dX9_many_0 rfl ?_
  refine rn_iconst (v := 0) dX9_many_1 rfl ?_
  refine rn_bipush (v := 10) dX9_many_2 rfl ?_
  refine rn_callS dX9_many_4 cs_X9_33 c_X9_isIn rfl (by decide) (by decide) rfl (Nat.le_of_ble_eq_true rfl) ?_
  refine rn_topi (y := 1) (by decide) ?_
  refine rn_callS dX9_many_7 cs_X9_37 (c_X9_mustFit (by decide)) rfl (by decide) (by decide) rfl (Nat.le_of_ble_eq_true rfl) ?_
  refine rn_iload_n dX9_many_10 rfl ?_
  refine rn_tableIn (tgt := 116) dX9_many_11 (by decide) (by decide) rfl rfl ?_
  refine rn_aload_n dX9_many_116 rfl ?_
  refine rn_getfield dX9_many_117 fo_X9_21 h_SH rfl ?_
  refine rn_iconst (v := 0) dX9_many_120 rfl ?_
  refine rn_callV dX9_many_121 cv_X9_208 (f_X0_endsInNeed hF) rfl h_an rfl rfl (by decide) (by decide) rfl (Nat.le_of_ble_eq_true rfl) ?_
  exact rn_ret dX9_many_124 trivial rfl
set_option maxRecDepth 20000 in
theorem f_many_7 (hF : Fr S) : ∃ S', Fr S' ∧ Cn l D ad tc L xs mX9_many 6 155 [.ref 1, .int 7] (wd S E, sl) (some (.int 0)) (wd S' E, sl) := by
  obtain ⟨S1, h1, c1⟩ := f_paths (l := l) (D := D) (ad := ad) (tc := tc) (L := L) (xs := xs) (E := E) (sl := sl) hF
  refine ⟨S1, h1, ?_⟩
  refine cn_of (lv0 := [(0, .ref 1), (1, .int 7)]) (by decide +kernel) ⟨_, rfl, rfl⟩ (fun _ => by simp [lg_sl, j_v, Value.category]) (fun _ => rfl) ?_
  refine rn_iload_n dX9_many_0 rfl ?_
  refine rn_iconst (v := 0) dX9_many_1 rfl ?_
  refine rn_bipush (v := 10) dX9_many_2 rfl ?_
  refine rn_callS dX9_many_4 cs_X9_33 c_X9_isIn rfl (by decide) (by decide) rfl (Nat.le_of_ble_eq_true rfl) ?_
  refine rn_topi (y := 1) (by decide) ?_
  refine rn_callS dX9_many_7 cs_X9_37 (c_X9_mustFit (by decide)) rfl (by decide) (by decide) rfl (Nat.le_of_ble_eq_true rfl) ?_
  refine rn_iload_n dX9_many_10 rfl ?_
  refine rn_tableIn (tgt := 125) dX9_many_11 (by decide) (by decide) rfl rfl ?_
  refine rn_aload_n dX9_many_125 rfl ?_
  refine rn_getfield dX9_many_126 fo_X9_21 h_SH rfl ?_
  refine rn_callV dX9_many_129 cv_X9_192 c1 rfl h_an rfl rfl (by decide) (by decide) rfl (Nat.le_of_ble_eq_true rfl) ?_
  refine rn_iconst (v := 0) dX9_many_132 rfl ?_
  refine rn_callV dX9_many_133 cv_X9_212 (f_X6_crossings h1) rfl h_paths rfl rfl (by decide) (by decide) rfl (Nat.le_of_ble_eq_true rfl) ?_
  exact rn_ret dX9_many_136 trivial rfl
set_option maxRecDepth 20000 in
theorem f_many_8 (hF : Fr S) : ∃ S', Fr S' ∧ Cn l D ad tc L xs mX9_many 6 155 [.ref 1, .int 8] (wd S E, sl) (some (.int 0)) (wd S' E, sl) := by
  obtain ⟨S1, h1, c1⟩ := f_paths (l := l) (D := D) (ad := ad) (tc := tc) (L := L) (xs := xs) (E := E) (sl := sl) hF
  refine ⟨S1, h1, ?_⟩
  refine cn_of (lv0 := [(0, .ref 1), (1, .int 8)]) (by decide +kernel) ⟨_, rfl, rfl⟩ (fun _ => by simp [lg_sl, j_v, Value.category]) (fun _ => rfl) ?_
  refine rn_iload_n dX9_many_0 rfl ?_
  refine rn_iconst (v := 0) dX9_many_1 rfl ?_
  refine rn_bipush (v := 10) dX9_many_2 rfl ?_
  refine rn_callS dX9_many_4 cs_X9_33 c_X9_isIn rfl (by decide) (by decide) rfl (Nat.le_of_ble_eq_true rfl) ?_
  refine rn_topi (y := 1) (by decide) ?_
  refine rn_callS dX9_many_7 cs_X9_37 (c_X9_mustFit (by decide)) rfl (by decide) (by decide) rfl (Nat.le_of_ble_eq_true rfl) ?_
  refine rn_iload_n dX9_many_10 rfl ?_
  refine rn_tableIn (tgt := 137) dX9_many_11 (by decide) (by decide) rfl rfl ?_
  refine rn_aload_n dX9_many_137 rfl ?_
  refine rn_getfield dX9_many_138 fo_X9_21 h_SH rfl ?_
  refine rn_callV dX9_many_141 cv_X9_192 c1 rfl h_an rfl rfl (by decide) (by decide) rfl (Nat.le_of_ble_eq_true rfl) ?_
  refine rn_iconst (v := 1) dX9_many_144 rfl ?_
  refine rn_callV dX9_many_145 cv_X9_212 (f_X6_crossings h1) rfl h_paths rfl rfl (by decide) (by decide) rfl (Nat.le_of_ble_eq_true rfl) ?_
  exact rn_ret dX9_many_148 trivial rfl
set_option maxRecDepth 20000 in
theorem f_many_9 (hF : Fr S) : ∃ S', Fr S' ∧ Cn l D ad tc L xs mX9_many 6 155 [.ref 1, .int 9] (wd S E, sl) (some (.int 0)) (wd S' E, sl) := by
  refine ⟨S, hF, ?_⟩
  refine cn_of (lv0 := [(0, .ref 1), (1, .int 9)]) (by decide +kernel) ⟨_, rfl, rfl⟩ (fun _ => by simp [lg_sl, j_v, Value.category]) (fun _ => rfl) ?_
  refine rn_iload_n dX9_many_0 rfl ?_
  refine rn_iconst (v := 0) dX9_many_1 rfl ?_
  refine rn_bipush (v := 10) dX9_many_2 rfl ?_
  refine rn_callS dX9_many_4 cs_X9_33 c_X9_isIn rfl (by decide) (by decide) rfl (Nat.le_of_ble_eq_true rfl) ?_
  refine rn_topi (y := 1) (by decide) ?_
  refine rn_callS dX9_many_7 cs_X9_37 (c_X9_mustFit (by decide)) rfl (by decide) (by decide) rfl (Nat.le_of_ble_eq_true rfl) ?_
  refine rn_iload_n dX9_many_10 rfl ?_
  refine rn_tableIn (tgt := 149) dX9_many_11 (by decide) (by decide) rfl rfl ?_
  refine rn_aload_n dX9_many_149 rfl ?_
  refine rn_getfield dX9_many_150 fo_X9_142 h_SH rfl ?_
  refine rn_topi (y := 0) hF.2.2.2.2.1 ?_
  refine rn_if_eq (tgt := 160) dX9_many_153 rfl (fun _ => ?_) (fun q => absurd (by decide) q)
  refine rn_iconst (v := 0) dX9_many_160 rfl ?_
  exact rn_ret dX9_many_161 trivial rfl
set_option maxRecDepth 20000 in
theorem f_many_10 (hF : Fr S) : ∃ S', Fr S' ∧ Cn l D ad tc L xs mX9_many 6 155 [.ref 1, .int 10] (wd S E, sl) (some (.int 0)) (wd S' E, sl) := by
  refine ⟨S, hF, ?_⟩
  refine cn_of (lv0 := [(0, .ref 1), (1, .int 10)]) (by decide +kernel) ⟨_, rfl, rfl⟩ (fun _ => by simp [lg_sl, j_v, Value.category]) (fun _ => rfl) ?_
  refine rn_iload_n dX9_many_0 rfl ?_
  refine rn_iconst (v := 0) dX9_many_1 rfl ?_
  refine rn_bipush (v := 10) dX9_many_2 rfl ?_
  refine rn_callS dX9_many_4 cs_X9_33 c_X9_isIn rfl (by decide) (by decide) rfl (Nat.le_of_ble_eq_true rfl) ?_
  refine rn_topi (y := 1) (by decide) ?_
  refine rn_callS dX9_many_7 cs_X9_37 (c_X9_mustFit (by decide)) rfl (by decide) (by decide) rfl (Nat.le_of_ble_eq_true rfl) ?_
  refine rn_iload_n dX9_many_10 rfl ?_
  refine rn_tableOut (tgt := 162) dX9_many_11 (by decide) rfl ?_
  refine rn_aload_n dX9_many_162 rfl ?_
  refine rn_getfield dX9_many_163 fo_X9_146 h_SH rfl ?_
  refine rn_topi (y := 0) hF.2.2.2.2.2 ?_
  exact rn_ret dX9_many_166 trivial rfl
end F1
