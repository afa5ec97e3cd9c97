/-! Telling: the face -/
theorem TS_forget (S : jS) : TS S (sForget S) := TS_t (TS_t (TS_t (TS_t (TS_t (TS_I S (by decide)) (TS_I _ (by decide))) (TS_t (TS_I _ (by decide)) (TS_I _ (by decide)))) (TS_t (TS_I _ (by decide)) (TS_I _ (by decide)))) (TS_t (TS_I _ (by decide)) (TS_I _ (by decide)))) (TS_r _)
section T21
variable {l : Launch} {D : va_G} {ad : Nat → Nat} {tc : Nat → ClassId} {L : Nat} {xs : Nat → Int32} {S : jS} {E : List j_C} {sl x : Nat}
set_option maxRecDepth 20000 in
theorem c_X9_clock {v : Nat} {a b c d : Int32} (ho : sI S 0 2 = 0) (hk : sI S 1 4 = nI v) (hv : v < 4) (h1 : 4 ≤ a ∧ a ≤ 40) (h2 : 0 ≤ b ∧ b ≤ 40) (h3 : 0 ≤ c ∧ c ≤ 20) (h4 : 0 ≤ d ∧ d ≤ 1) : Cn l D ad tc L xs mX9_clock 1 26 [.ref 1, .int a, .int b, .int c, .int d] (wd S E, sl) (some (.int (nI v))) (wd (sClk (sForget S) v a b c d (nI v)) E, sl) := by
  refine cn_of (lv0 := [(0, .ref 1), (1, .int a), (2, .int b), (3, .int c), (4, .int d)]) (by decide +kernel) ⟨_, rfl, rfl⟩ (fun _ => by simp [lg_sl, j_v, Value.category]) (fun _ => rfl) ?_
  have hkF : sI (sForget S) 1 4 = nI v := ((TS_forget S).1 1 4 (by decide)).trans hk
  refine rn_aload_n dX9_clock_0 rfl ?_
  refine rn_aload_n dX9_clock_1 rfl ?_
  refine rn_getfield dX9_clock_2 fo_X9_12 h_SH rfl ?_
  refine rn_getfield dX9_clock_5 fo_X9_25 h_chip rfl ?_
  refine rn_topi (y := nI v) (by first | exact hk | exact hkF) ?_
  refine rn_iconst (v := 4) dX9_clock_8 rfl ?_
  refine rn_icmp_ge (tgt := 16) dX9_clock_9 rfl (fun q1 => absurd q1 (by exact Int32.not_le.mpr (by rw [show (4 : Int32) = nI 4 by decide]; exact nI_lt hv (by omega)))) (fun _ => ?_)
  refine rn_iconst (v := 1) dX9_clock_12 rfl ?_
  refine rn_goto (tgt := 17) dX9_clock_13 rfl ?_
  refine rn_callV dX9_clock_17 cv_X9_29 (c_X9_mustBeOpen ho (by decide)) rfl h_SH rfl rfl (by decide) (by decide) rfl (Nat.le_of_ble_eq_true rfl) ?_
  refine rn_iload_n dX9_clock_20 rfl ?_
  refine rn_iconst (v := 4) dX9_clock_21 rfl ?_
  refine rn_bipush (v := 40) dX9_clock_22 rfl ?_
  refine rn_callS dX9_clock_24 cs_X9_33 c_X9_isIn rfl (by decide) (by decide) rfl (Nat.le_of_ble_eq_true rfl) ?_
  refine rn_topi (is_b (decide_eq_true h1)) ?_
  refine rn_if_eq (tgt := 64) dX9_clock_27 rfl (fun q2 => absurd q2 (by decide)) (fun _ => ?_)
  refine rn_iload_n dX9_clock_30 rfl ?_
  refine rn_iconst (v := 0) dX9_clock_31 rfl ?_
  refine rn_bipush (v := 40) dX9_clock_32 rfl ?_
  refine rn_callS dX9_clock_34 cs_X9_33 c_X9_isIn rfl (by decide) (by decide) rfl (Nat.le_of_ble_eq_true rfl) ?_
  refine rn_topi (is_b (decide_eq_true h2)) ?_
  refine rn_if_eq (tgt := 64) dX9_clock_37 rfl (fun q3 => absurd q3 (by decide)) (fun _ => ?_)
  refine rn_iload_n dX9_clock_40 rfl ?_
  refine rn_iconst (v := 0) dX9_clock_41 rfl ?_
  refine rn_bipush (v := 20) dX9_clock_42 rfl ?_
  refine rn_callS dX9_clock_44 cs_X9_33 c_X9_isIn rfl (by decide) (by decide) rfl (Nat.le_of_ble_eq_true rfl) ?_
  refine rn_topi (is_b (decide_eq_true h3)) ?_
  refine rn_if_eq (tgt := 64) dX9_clock_47 rfl (fun q4 => absurd q4 (by decide)) (fun _ => ?_)
  refine rn_iload dX9_clock_50 rfl ?_
  refine rn_iconst (v := 0) dX9_clock_52 rfl ?_
  refine rn_iconst (v := 1) dX9_clock_53 rfl ?_
  refine rn_callS dX9_clock_54 cs_X9_33 c_X9_isIn rfl (by decide) (by decide) rfl (Nat.le_of_ble_eq_true rfl) ?_
  refine rn_topi (is_b (decide_eq_true h4)) ?_
  refine rn_if_eq (tgt := 64) dX9_clock_57 rfl (fun q5 => absurd q5 (by decide)) (fun _ => ?_)
  refine rn_iconst (v := 1) dX9_clock_60 rfl ?_
  refine rn_goto (tgt := 65) dX9_clock_61 rfl ?_
  refine rn_callS dX9_clock_65 cs_X9_37 (c_X9_mustFit (by decide)) rfl (by decide) (by decide) rfl (Nat.le_of_ble_eq_true rfl) ?_
  refine rn_aload_n dX9_clock_68 rfl ?_
  refine rn_getfield dX9_clock_69 fo_X9_21 h_SH rfl ?_
  refine rn_callV dX9_clock_72 cv_X9_40 c_X0_forget rfl h_an rfl rfl (by decide) (by decide) rfl (Nat.le_of_ble_eq_true rfl) ?_
  refine rn_aload_n dX9_clock_75 rfl ?_
  refine rn_getfield dX9_clock_76 fo_X9_12 h_SH rfl ?_
  refine rn_iload_n dX9_clock_79 rfl ?_
  refine rn_iload_n dX9_clock_80 rfl ?_
  refine rn_iload_n dX9_clock_81 rfl ?_
  refine rn_iload dX9_clock_82 rfl ?_
  refine rn_aload_n dX9_clock_84 rfl ?_
  refine rn_getfield dX9_clock_85 fo_X9_12 h_SH rfl ?_
  refine rn_getfield dX9_clock_88 fo_X9_25 h_chip rfl ?_
  refine rn_topi (y := nI v) (by first | exact hk | exact hkF) ?_
  refine rn_callV dX9_clock_91 cv_X9_43 (c_X1_addClock hkF hv) rfl h_chip rfl rfl (by decide) (by decide) rfl (Nat.le_of_ble_eq_true rfl) ?_
  exact rn_ret dX9_clock_94 trivial rfl
set_option maxRecDepth 20000 in
theorem c_X9_corner {c a b : Nat} (ho : sI S 0 2 = 0) (hk : sI S 1 5 = nI c) (hc : c < 3) (ha : a ≤ 16) (hb : b ≤ 16) (h1 : 8 ≤ nI a ∧ nI a ≤ 16) (h2 : 1 ≤ nI b ∧ nI b ≤ 8) : Cn l D ad tc L xs mX9_corner 1 22 [.ref 1, .int (nI a), .int (nI b)] (wd S E, sl) (some (.int (nI c))) (wd (sCor (sForget S) c a b) E, sl) := by
  refine cn_of (lv0 := [(0, .ref 1), (1, .int (nI a)), (2, .int (nI b))]) (by decide +kernel) ⟨_, rfl, rfl⟩ (fun _ => by simp [lg_sl, j_v, Value.category]) (fun _ => rfl) ?_
  have hkF : sI (sForget S) 1 5 = nI c := ((TS_forget S).1 1 5 (by decide)).trans hk
  refine rn_aload_n dX9_corner_0 rfl ?_
  refine rn_aload_n dX9_corner_1 rfl ?_
  refine rn_getfield dX9_corner_2 fo_X9_12 h_SH rfl ?_
  refine rn_getfield dX9_corner_5 fo_X9_75 h_chip rfl ?_
  refine rn_topi (y := nI c) (by first | exact hk | exact hkF) ?_
  refine rn_iconst (v := 3) dX9_corner_8 rfl ?_
  refine rn_icmp_ge (tgt := 16) dX9_corner_9 rfl (fun q1 => absurd q1 (by exact Int32.not_le.mpr (by rw [show (3 : Int32) = nI 3 by decide]; exact nI_lt hc (by omega)))) (fun _ => ?_)
  refine rn_iconst (v := 1) dX9_corner_12 rfl ?_
  refine rn_goto (tgt := 17) dX9_corner_13 rfl ?_
  refine rn_callV dX9_corner_17 cv_X9_29 (c_X9_mustBeOpen ho (by decide)) rfl h_SH rfl rfl (by decide) (by decide) rfl (Nat.le_of_ble_eq_true rfl) ?_
  refine rn_iload_n dX9_corner_20 rfl ?_
  refine rn_bipush (v := 8) dX9_corner_21 rfl ?_
  refine rn_bipush (v := 16) dX9_corner_23 rfl ?_
  refine rn_callS dX9_corner_25 cs_X9_33 c_X9_isIn rfl (by decide) (by decide) rfl (Nat.le_of_ble_eq_true rfl) ?_
  refine rn_topi (is_b (decide_eq_true h1)) ?_
  refine rn_if_eq (tgt := 45) dX9_corner_28 rfl (fun q2 => absurd q2 (by decide)) (fun _ => ?_)
  refine rn_iload_n dX9_corner_31 rfl ?_
  refine rn_iconst (v := 1) dX9_corner_32 rfl ?_
  refine rn_bipush (v := 8) dX9_corner_33 rfl ?_
  refine rn_callS dX9_corner_35 cs_X9_33 c_X9_isIn rfl (by decide) (by decide) rfl (Nat.le_of_ble_eq_true rfl) ?_
  refine rn_topi (is_b (decide_eq_true h2)) ?_
  refine rn_if_eq (tgt := 45) dX9_corner_38 rfl (fun q3 => absurd q3 (by decide)) (fun _ => ?_)
  refine rn_iconst (v := 1) dX9_corner_41 rfl ?_
  refine rn_goto (tgt := 46) dX9_corner_42 rfl ?_
  refine rn_callS dX9_corner_46 cs_X9_37 (c_X9_mustFit (by decide)) rfl (by decide) (by decide) rfl (Nat.le_of_ble_eq_true rfl) ?_
  refine rn_aload_n dX9_corner_49 rfl ?_
  refine rn_getfield dX9_corner_50 fo_X9_21 h_SH rfl ?_
  refine rn_callV dX9_corner_53 cv_X9_40 c_X0_forget rfl h_an rfl rfl (by decide) (by decide) rfl (Nat.le_of_ble_eq_true rfl) ?_
  refine rn_aload_n dX9_corner_56 rfl ?_
  refine rn_getfield dX9_corner_57 fo_X9_12 h_SH rfl ?_
  refine rn_iload_n dX9_corner_60 rfl ?_
  refine rn_iload_n dX9_corner_61 rfl ?_
  refine rn_callV dX9_corner_62 cv_X9_78 (c_X1_addCorner hkF hc ha hb) rfl h_chip rfl rfl (by decide) (by decide) rfl (Nat.le_of_ble_eq_true rfl) ?_
  exact rn_ret dX9_corner_65 trivial rfl
set_option maxRecDepth 20000 in
theorem c_X9_size {n i : Nat} {z : Int32} (ho : sI S 0 2 = 0) (hN : sI S 1 6 = nI n) (hn : n ≤ 16) (hi : i < n) (hz : z = 1 ∨ z = 2 ∨ z = 4) : Cn l D ad tc L xs mX9_size 1 21 [.ref 1, .int (nI i), .int z] (wd S E, sl) (some (.int (sI S (i + 13) 5))) (wd (pI (sForget S) (i + 13) 5 z) E, sl) := by
  refine cn_of (lv0 := [(0, .ref 1), (1, .int (nI i)), (2, .int z)]) (by decide +kernel) ⟨_, rfl, rfl⟩ (fun _ => by simp [lg_sl, j_v, Value.category]) (fun _ => rfl) ?_
  refine rn_aload_n dX9_size_0 rfl ?_
  refine rn_iconst (v := 1) dX9_size_1 rfl ?_
  refine rn_callV dX9_size_2 cv_X9_29 (c_X9_mustBeOpen ho (by decide)) rfl h_SH rfl rfl (by decide) (by decide) rfl (Nat.le_of_ble_eq_true rfl) ?_
  refine rn_aload_n dX9_size_5 rfl ?_
  refine rn_getfield dX9_size_6 fo_X9_12 h_SH rfl ?_
  refine rn_iload_n dX9_size_9 rfl ?_
  refine rn_callV dX9_size_10 cv_X9_85 c_X1_hasNode rfl h_chip rfl rfl (by decide) (by decide) rfl (Nat.le_of_ble_eq_true rfl) ?_
  refine rn_topi (has_n hN hn hi) ?_
  refine rn_callS dX9_size_13 cs_X9_51 (c_X9_mustExist (by decide)) rfl (by decide) (by decide) rfl (Nat.le_of_ble_eq_true rfl) ?_
  refine rn_iload_n dX9_size_16 rfl ?_
  refine rn_callS dX9_size_17 cs_X9_104 c_X9_isSize rfl (by decide) (by decide) rfl (Nat.le_of_ble_eq_true rfl) ?_
  refine rn_topi (is_b (decide_eq_true hz)) ?_
  refine rn_callS dX9_size_20 cs_X9_37 (c_X9_mustFit (by decide)) rfl (by decide) (by decide) rfl (Nat.le_of_ble_eq_true rfl) ?_
  refine rn_aload_n dX9_size_23 rfl ?_
  refine rn_getfield dX9_size_24 fo_X9_21 h_SH rfl ?_
  refine rn_callV dX9_size_27 cv_X9_40 c_X0_forget rfl h_an rfl rfl (by decide) (by decide) rfl (Nat.le_of_ble_eq_true rfl) ?_
  refine rn_aload_n dX9_size_30 rfl ?_
  refine rn_getfield dX9_size_31 fo_X9_12 h_SH rfl ?_
  refine rn_getfield dX9_size_34 fo_X9_88 h_chip rfl ?_
  refine rn_iload_n dX9_size_37 rfl ?_
  refine rn_aaload dX9_size_38 h_nodes rfl (vp_in_nI (by omega) (by decide)) (refs_at rfl (by omega) (by decide)) ?_
  refine rn_getfield dX9_size_39 fo_X9_107 (h_node (by omega)) rfl ?_
  refine rn_topi ((TS_forget S).1 _ _ (by omega)) ?_
  refine rn_istore_n dX9_size_42 (by decide) rfl ?_
  refine rn_aload_n dX9_size_43 rfl ?_
  refine rn_getfield dX9_size_44 fo_X9_12 h_SH rfl ?_
  refine rn_getfield dX9_size_47 fo_X9_88 h_chip rfl ?_
  refine rn_iload_n dX9_size_50 rfl ?_
  refine rn_aaload dX9_size_51 h_nodes rfl (vp_in_nI (by omega) (by decide)) (refs_at rfl (by omega) (by decide)) ?_
  refine rn_iload_n dX9_size_52 rfl ?_
  refine rn_pI (a := _ + 13) dX9_size_53 fp_X9_107 (by omega) (cc_node (by omega)) (cc_nodeI (by omega) (by decide)) (by simp) ⟨rfl, rfl⟩ ⟨_, _, _, rfl, rfl⟩ ?_
  refine rn_iload_n dX9_size_56 rfl ?_
  exact rn_ret dX9_size_57 trivial rfl
set_option maxRecDepth 20000 in
theorem c_X9_skew {n i : Nat} {z : Int32} (ho : sI S 0 2 = 0) (hN : sI S 1 6 = nI n) (hn : n ≤ 16) (hi : i < n) (h1 : kd S i = 6 ∨ kd S i = 7) (h2 : 0 ≤ z ∧ z ≤ 20) : Cn l D ad tc L xs mX9_skew 1 22 [.ref 1, .int (nI i), .int z] (wd S E, sl) (some (.int (sI S (i + 13) 7))) (wd (pI (sForget S) (i + 13) 7 z) E, sl) := by
  refine cn_of (lv0 := [(0, .ref 1), (1, .int (nI i)), (2, .int z)]) (by decide +kernel) ⟨_, rfl, rfl⟩ (fun _ => by simp [lg_sl, j_v, Value.category]) (fun _ => rfl) ?_
  refine rn_aload_n dX9_skew_0 rfl ?_
  refine rn_iconst (v := 1) dX9_skew_1 rfl ?_
  refine rn_callV dX9_skew_2 cv_X9_29 (c_X9_mustBeOpen ho (by decide)) rfl h_SH rfl rfl (by decide) (by decide) rfl (Nat.le_of_ble_eq_true rfl) ?_
  refine rn_aload_n dX9_skew_5 rfl ?_
  refine rn_getfield dX9_skew_6 fo_X9_12 h_SH rfl ?_
  refine rn_iload_n dX9_skew_9 rfl ?_
  refine rn_callV dX9_skew_10 cv_X9_85 c_X1_hasNode rfl h_chip rfl rfl (by decide) (by decide) rfl (Nat.le_of_ble_eq_true rfl) ?_
  refine rn_topi (has_n hN hn hi) ?_
  refine rn_callS dX9_skew_13 cs_X9_51 (c_X9_mustExist (by decide)) rfl (by decide) (by decide) rfl (Nat.le_of_ble_eq_true rfl) ?_
  refine rn_aload_n dX9_skew_16 rfl ?_
  refine rn_getfield dX9_skew_17 fo_X9_12 h_SH rfl ?_
  refine rn_getfield dX9_skew_20 fo_X9_88 h_chip rfl ?_
  refine rn_iload_n dX9_skew_23 rfl ?_
  refine rn_aaload dX9_skew_24 h_nodes rfl (vp_in_nI (by omega) (by decide)) (refs_at rfl (by omega) (by decide)) ?_
  refine rn_getfield dX9_skew_25 fo_X9_92 (h_node (by omega)) rfl ?_
  refine rn_bipush (v := 6) dX9_skew_28 rfl ?_
  refine rn_icmp_eq (tgt := 50) dX9_skew_30 rfl (fun q1 => ?_) (fun q1 => ?_)
  · refine rn_iload_n dX9_skew_50 rfl ?_
    refine rn_iconst (v := 0) dX9_skew_51 rfl ?_
    refine rn_bipush (v := 20) dX9_skew_52 rfl ?_
    refine rn_callS dX9_skew_54 cs_X9_33 c_X9_isIn rfl (by decide) (by decide) rfl (Nat.le_of_ble_eq_true rfl) ?_
    refine rn_topi (is_b (decide_eq_true h2)) ?_
    refine rn_if_eq (tgt := 64) dX9_skew_57 rfl (fun q2 => absurd q2 (by decide)) (fun _ => ?_)
    refine rn_iconst (v := 1) dX9_skew_60 rfl ?_
    refine rn_goto (tgt := 65) dX9_skew_61 rfl ?_
    refine rn_callS dX9_skew_65 cs_X9_37 (c_X9_mustFit (by decide)) rfl (by decide) (by decide) rfl (Nat.le_of_ble_eq_true rfl) ?_
    refine rn_aload_n dX9_skew_68 rfl ?_
    refine rn_getfield dX9_skew_69 fo_X9_21 h_SH rfl ?_
    refine rn_callV dX9_skew_72 cv_X9_40 c_X0_forget rfl h_an rfl rfl (by decide) (by decide) rfl (Nat.le_of_ble_eq_true rfl) ?_
    refine rn_aload_n dX9_skew_75 rfl ?_
    refine rn_getfield dX9_skew_76 fo_X9_12 h_SH rfl ?_
    refine rn_getfield dX9_skew_79 fo_X9_88 h_chip rfl ?_
    refine rn_iload_n dX9_skew_82 rfl ?_
    refine rn_aaload dX9_skew_83 h_nodes rfl (vp_in_nI (by omega) (by decide)) (refs_at rfl (by omega) (by decide)) ?_
    refine rn_getfield dX9_skew_84 fo_X9_125 (h_node (by omega)) rfl ?_
    refine rn_topi ((TS_forget S).1 _ _ (by omega)) ?_
    refine rn_istore_n dX9_skew_87 (by decide) rfl ?_
    refine rn_aload_n dX9_skew_88 rfl ?_
    refine rn_getfield dX9_skew_89 fo_X9_12 h_SH rfl ?_
    refine rn_getfield dX9_skew_92 fo_X9_88 h_chip rfl ?_
    refine rn_iload_n dX9_skew_95 rfl ?_
    refine rn_aaload dX9_skew_96 h_nodes rfl (vp_in_nI (by omega) (by decide)) (refs_at rfl (by omega) (by decide)) ?_
    refine rn_iload_n dX9_skew_97 rfl ?_
    refine rn_pI (a := _ + 13) dX9_skew_98 fp_X9_125 (by omega) (cc_node (by omega)) (cc_nodeI (by omega) (by decide)) (by simp) ⟨rfl, rfl⟩ ⟨_, _, _, rfl, rfl⟩ ?_
    refine rn_iload_n dX9_skew_101 rfl ?_
    exact rn_ret dX9_skew_102 trivial rfl
  · refine rn_aload_n dX9_skew_33 rfl ?_
    refine rn_getfield dX9_skew_34 fo_X9_12 h_SH rfl ?_
    refine rn_getfield dX9_skew_37 fo_X9_88 h_chip rfl ?_
    refine rn_iload_n dX9_skew_40 rfl ?_
    refine rn_aaload dX9_skew_41 h_nodes rfl (vp_in_nI (by omega) (by decide)) (refs_at rfl (by omega) (by decide)) ?_
    refine rn_getfield dX9_skew_42 fo_X9_92 (h_node (by omega)) rfl ?_
    refine rn_bipush (v := 7) dX9_skew_45 rfl ?_
    refine rn_icmp_ne (tgt := 64) dX9_skew_47 rfl (fun q3 => absurd q3 (by exact fun z => z (h1.resolve_left (by assumption)))) (fun _ => ?_)
    refine rn_iload_n dX9_skew_50 rfl ?_
    refine rn_iconst (v := 0) dX9_skew_51 rfl ?_
    refine rn_bipush (v := 20) dX9_skew_52 rfl ?_
    refine rn_callS dX9_skew_54 cs_X9_33 c_X9_isIn rfl (by decide) (by decide) rfl (Nat.le_of_ble_eq_true rfl) ?_
    refine rn_topi (is_b (decide_eq_true h2)) ?_
    refine rn_if_eq (tgt := 64) dX9_skew_57 rfl (fun q4 => absurd q4 (by decide)) (fun _ => ?_)
    refine rn_iconst (v := 1) dX9_skew_60 rfl ?_
    refine rn_goto (tgt := 65) dX9_skew_61 rfl ?_
    refine rn_callS dX9_skew_65 cs_X9_37 (c_X9_mustFit (by decide)) rfl (by decide) (by decide) rfl (Nat.le_of_ble_eq_true rfl) ?_
    refine rn_aload_n dX9_skew_68 rfl ?_
    refine rn_getfield dX9_skew_69 fo_X9_21 h_SH rfl ?_
    refine rn_callV dX9_skew_72 cv_X9_40 c_X0_forget rfl h_an rfl rfl (by decide) (by decide) rfl (Nat.le_of_ble_eq_true rfl) ?_
    refine rn_aload_n dX9_skew_75 rfl ?_
    refine rn_getfield dX9_skew_76 fo_X9_12 h_SH rfl ?_
    refine rn_getfield dX9_skew_79 fo_X9_88 h_chip rfl ?_
    refine rn_iload_n dX9_skew_82 rfl ?_
    refine rn_aaload dX9_skew_83 h_nodes rfl (vp_in_nI (by omega) (by decide)) (refs_at rfl (by omega) (by decide)) ?_
    refine rn_getfield dX9_skew_84 fo_X9_125 (h_node (by omega)) rfl ?_
    refine rn_topi ((TS_forget S).1 _ _ (by omega)) ?_
    refine rn_istore_n dX9_skew_87 (by decide) rfl ?_
    refine rn_aload_n dX9_skew_88 rfl ?_
    refine rn_getfield dX9_skew_89 fo_X9_12 h_SH rfl ?_
    refine rn_getfield dX9_skew_92 fo_X9_88 h_chip rfl ?_
    refine rn_iload_n dX9_skew_95 rfl ?_
    refine rn_aaload dX9_skew_96 h_nodes rfl (vp_in_nI (by omega) (by decide)) (refs_at rfl (by omega) (by decide)) ?_
    refine rn_iload_n dX9_skew_97 rfl ?_
    refine rn_pI (a := _ + 13) dX9_skew_98 fp_X9_125 (by omega) (cc_node (by omega)) (cc_nodeI (by omega) (by decide)) (by simp) ⟨rfl, rfl⟩ ⟨_, _, _, rfl, rfl⟩ ?_
    refine rn_iload_n dX9_skew_101 rfl ?_
    exact rn_ret dX9_skew_102 trivial rfl
set_option maxRecDepth 20000 in
theorem c_X9_divide {v c : Nat} {a b : Int32} (ho : sI S 0 2 = 0) (hk : sI S 1 4 = nI v) (hv : v < 4) (hc : c < v) (h1 : 2 ≤ a ∧ a ≤ 4) (h2 : 0 ≤ b ∧ b ≤ 20) : Cn l D ad tc L xs mX9_divide 1 26 [.ref 1, .int (nI c), .int a, .int b] (wd S E, sl) (some (.int (nI v))) (wd (sClk (sForget S) v (sI S (c + 6) 0 * a) (sI S (c + 6) 1 + b) (sI S (c + 6) 2) (sI S (c + 6) 3) (sI S (c + 6) 4)) E, sl) := by
  refine cn_of (lv0 := [(0, .ref 1), (1, .int (nI c)), (2, .int a), (3, .int b)]) (by decide +kernel) ⟨_, rfl, rfl⟩ (fun _ => by simp [lg_sl, j_v, Value.category]) (fun _ => rfl) ?_
  have hkF : sI (sForget S) 1 4 = nI v := ((TS_forget S).1 1 4 (by decide)).trans hk
  refine rn_aload_n dX9_divide_0 rfl ?_
  refine rn_aload_n dX9_divide_1 rfl ?_
  refine rn_getfield dX9_divide_2 fo_X9_12 h_SH rfl ?_
  refine rn_getfield dX9_divide_5 fo_X9_25 h_chip rfl ?_
  refine rn_topi (y := nI v) (by first | exact hk | exact hkF) ?_
  refine rn_iconst (v := 4) dX9_divide_8 rfl ?_
  refine rn_icmp_ge (tgt := 16) dX9_divide_9 rfl (fun q1 => absurd q1 (by exact Int32.not_le.mpr (by rw [show (4 : Int32) = nI 4 by decide]; exact nI_lt hv (by omega)))) (fun _ => ?_)
  refine rn_iconst (v := 1) dX9_divide_12 rfl ?_
  refine rn_goto (tgt := 17) dX9_divide_13 rfl ?_
  refine rn_callV dX9_divide_17 cv_X9_29 (c_X9_mustBeOpen ho (by decide)) rfl h_SH rfl rfl (by decide) (by decide) rfl (Nat.le_of_ble_eq_true rfl) ?_
  refine rn_aload_n dX9_divide_20 rfl ?_
  refine rn_getfield dX9_divide_21 fo_X9_12 h_SH rfl ?_
  refine rn_iload_n dX9_divide_24 rfl ?_
  refine rn_callV dX9_divide_25 cv_X9_47 c_X1_hasClock rfl h_chip rfl rfl (by decide) (by decide) rfl (Nat.le_of_ble_eq_true rfl) ?_
  refine rn_topi (is_b (decide_eq_true ⟨Int32.not_lt.mp (nI_pos (by omega)), by rw [hk]; exact nI_lt hc (by omega)⟩)) ?_
  refine rn_callS dX9_divide_28 cs_X9_51 (c_X9_mustExist (by decide)) rfl (by decide) (by decide) rfl (Nat.le_of_ble_eq_true rfl) ?_
  refine rn_iload_n dX9_divide_31 rfl ?_
  refine rn_iconst (v := 2) dX9_divide_32 rfl ?_
  refine rn_iconst (v := 4) dX9_divide_33 rfl ?_
  refine rn_callS dX9_divide_34 cs_X9_33 c_X9_isIn rfl (by decide) (by decide) rfl (Nat.le_of_ble_eq_true rfl) ?_
  refine rn_topi (is_b (decide_eq_true h1)) ?_
  refine rn_if_eq (tgt := 54) dX9_divide_37 rfl (fun q2 => absurd q2 (by decide)) (fun _ => ?_)
  refine rn_iload_n dX9_divide_40 rfl ?_
  refine rn_iconst (v := 0) dX9_divide_41 rfl ?_
  refine rn_bipush (v := 20) dX9_divide_42 rfl ?_
  refine rn_callS dX9_divide_44 cs_X9_33 c_X9_isIn rfl (by decide) (by decide) rfl (Nat.le_of_ble_eq_true rfl) ?_
  refine rn_topi (is_b (decide_eq_true h2)) ?_
  refine rn_if_eq (tgt := 54) dX9_divide_47 rfl (fun q3 => absurd q3 (by decide)) (fun _ => ?_)
  refine rn_iconst (v := 1) dX9_divide_50 rfl ?_
  refine rn_goto (tgt := 55) dX9_divide_51 rfl ?_
  refine rn_callS dX9_divide_55 cs_X9_37 (c_X9_mustFit (by decide)) rfl (by decide) (by decide) rfl (Nat.le_of_ble_eq_true rfl) ?_
  refine rn_aload_n dX9_divide_58 rfl ?_
  refine rn_getfield dX9_divide_59 fo_X9_21 h_SH rfl ?_
  refine rn_callV dX9_divide_62 cv_X9_40 c_X0_forget rfl h_an rfl rfl (by decide) (by decide) rfl (Nat.le_of_ble_eq_true rfl) ?_
  refine rn_aload_n dX9_divide_65 rfl ?_
  refine rn_getfield dX9_divide_66 fo_X9_12 h_SH rfl ?_
  refine rn_getfield dX9_divide_69 fo_X9_54 h_chip rfl ?_
  refine rn_iload_n dX9_divide_72 rfl ?_
  refine rn_aaload dX9_divide_73 h_clocks rfl (vp_in_nI (by omega) (by decide)) (refs_at rfl (by omega) (by decide)) ?_
  refine rn_astore dX9_divide_74 (by decide) rfl ?_
  refine rn_aload_n dX9_divide_76 rfl ?_
  refine rn_getfield dX9_divide_77 fo_X9_12 h_SH rfl ?_
  refine rn_aload dX9_divide_80 rfl ?_
  refine rn_getfield dX9_divide_82 fo_X9_58 (h_clock (by omega)) rfl ?_
  refine rn_topi ((TS_forget S).1 _ _ (by omega)) ?_
  refine rn_iload_n dX9_divide_85 rfl ?_
  refine rn_imul dX9_divide_86 ?_
  refine rn_aload dX9_divide_87 rfl ?_
  refine rn_getfield dX9_divide_89 fo_X9_63 (h_clock (by omega)) rfl ?_
  refine rn_topi ((TS_forget S).1 _ _ (by omega)) ?_
  refine rn_iload_n dX9_divide_92 rfl ?_
  refine rn_iadd dX9_divide_93 ?_
  refine rn_aload dX9_divide_94 rfl ?_
  refine rn_getfield dX9_divide_96 fo_X9_66 (h_clock (by omega)) rfl ?_
  refine rn_topi ((TS_forget S).1 _ _ (by omega)) ?_
  refine rn_aload dX9_divide_99 rfl ?_
  refine rn_getfield dX9_divide_101 fo_X9_69 (h_clock (by omega)) rfl ?_
  refine rn_topi ((TS_forget S).1 _ _ (by omega)) ?_
  refine rn_aload dX9_divide_104 rfl ?_
  refine rn_getfield dX9_divide_106 fo_X9_72 (h_clock (by omega)) rfl ?_
  refine rn_topi ((TS_forget S).1 _ _ (by omega)) ?_
  refine rn_callV dX9_divide_109 cv_X9_43 (c_X1_addClock hkF hv) rfl h_chip rfl rfl (by decide) (by decide) rfl (Nat.le_of_ble_eq_true rfl) ?_
  exact rn_ret dX9_divide_112 trivial rfl
set_option maxRecDepth 20000 in
theorem c_X9_feed {n i a : Nat} (ho : sI S 0 2 = 0) (hN : sI S 1 6 = nI n) (hn : n ≤ 16) (hi : i < n) (ha : a < n) (h1 : kd S i = 6) (h2 : ¬ kd S a = 8) : Cn l D ad tc L xs mX9_feed 1 21 [.ref 1, .int (nI i), .int (nI a)] (wd S E, sl) (some (.int (fe1 S i))) (wd (pI (sForget S) (i + 13) 1 (nI a)) E, sl) := by
  refine cn_of (lv0 := [(0, .ref 1), (1, .int (nI i)), (2, .int (nI a))]) (by decide +kernel) ⟨_, rfl, rfl⟩ (fun _ => by simp [lg_sl, j_v, Value.category]) (fun _ => rfl) ?_
  refine rn_aload_n dX9_feed_0 rfl ?_
  refine rn_iconst (v := 1) dX9_feed_1 rfl ?_
  refine rn_callV dX9_feed_2 cv_X9_29 (c_X9_mustBeOpen ho (by decide)) rfl h_SH rfl rfl (by decide) (by decide) rfl (Nat.le_of_ble_eq_true rfl) ?_
  refine rn_aload_n dX9_feed_5 rfl ?_
  refine rn_getfield dX9_feed_6 fo_X9_12 h_SH rfl ?_
  refine rn_iload_n dX9_feed_9 rfl ?_
  refine rn_callV dX9_feed_10 cv_X9_85 c_X1_hasNode rfl h_chip rfl rfl (by decide) (by decide) rfl (Nat.le_of_ble_eq_true rfl) ?_
  refine rn_topi (has_n hN hn hi) ?_
  refine rn_if_eq (tgt := 31) dX9_feed_13 rfl (fun q1 => absurd q1 (by decide)) (fun _ => ?_)
  refine rn_aload_n dX9_feed_16 rfl ?_
  refine rn_getfield dX9_feed_17 fo_X9_12 h_SH rfl ?_
  refine rn_iload_n dX9_feed_20 rfl ?_
  refine rn_callV dX9_feed_21 cv_X9_85 c_X1_hasNode rfl h_chip rfl rfl (by decide) (by decide) rfl (Nat.le_of_ble_eq_true rfl) ?_
  refine rn_topi (has_n hN hn ha) ?_
  refine rn_if_eq (tgt := 31) dX9_feed_24 rfl (fun q2 => absurd q2 (by decide)) (fun _ => ?_)
  refine rn_iconst (v := 1) dX9_feed_27 rfl ?_
  refine rn_goto (tgt := 32) dX9_feed_28 rfl ?_
  refine rn_callS dX9_feed_32 cs_X9_51 (c_X9_mustExist (by decide)) rfl (by decide) (by decide) rfl (Nat.le_of_ble_eq_true rfl) ?_
  refine rn_aload_n dX9_feed_35 rfl ?_
  refine rn_getfield dX9_feed_36 fo_X9_12 h_SH rfl ?_
  refine rn_getfield dX9_feed_39 fo_X9_88 h_chip rfl ?_
  refine rn_iload_n dX9_feed_42 rfl ?_
  refine rn_aaload dX9_feed_43 h_nodes rfl (vp_in_nI (by omega) (by decide)) (refs_at rfl (by omega) (by decide)) ?_
  refine rn_getfield dX9_feed_44 fo_X9_92 (h_node (by omega)) rfl ?_
  refine rn_bipush (v := 6) dX9_feed_47 rfl ?_
  refine rn_icmp_ne (tgt := 73) dX9_feed_49 rfl (fun q3 => absurd q3 (by exact fun z => z h1)) (fun _ => ?_)
  refine rn_aload_n dX9_feed_52 rfl ?_
  refine rn_getfield dX9_feed_53 fo_X9_12 h_SH rfl ?_
  refine rn_getfield dX9_feed_56 fo_X9_88 h_chip rfl ?_
  refine rn_iload_n dX9_feed_59 rfl ?_
  refine rn_aaload dX9_feed_60 h_nodes rfl (vp_in_nI (by omega) (by decide)) (refs_at rfl (by omega) (by decide)) ?_
  refine rn_getfield dX9_feed_61 fo_X9_92 (h_node (by omega)) rfl ?_
  refine rn_bipush (v := 8) dX9_feed_64 rfl ?_
  refine rn_icmp_eq (tgt := 73) dX9_feed_66 rfl (fun q4 => absurd q4 (by exact h2)) (fun _ => ?_)
  refine rn_iconst (v := 1) dX9_feed_69 rfl ?_
  refine rn_goto (tgt := 74) dX9_feed_70 rfl ?_
  refine rn_callS dX9_feed_74 cs_X9_37 (c_X9_mustFit (by decide)) rfl (by decide) (by decide) rfl (Nat.le_of_ble_eq_true rfl) ?_
  refine rn_aload_n dX9_feed_77 rfl ?_
  refine rn_getfield dX9_feed_78 fo_X9_21 h_SH rfl ?_
  refine rn_callV dX9_feed_81 cv_X9_40 c_X0_forget rfl h_an rfl rfl (by decide) (by decide) rfl (Nat.le_of_ble_eq_true rfl) ?_
  refine rn_aload_n dX9_feed_84 rfl ?_
  refine rn_getfield dX9_feed_85 fo_X9_12 h_SH rfl ?_
  refine rn_getfield dX9_feed_88 fo_X9_88 h_chip rfl ?_
  refine rn_iload_n dX9_feed_91 rfl ?_
  refine rn_aaload dX9_feed_92 h_nodes rfl (vp_in_nI (by omega) (by decide)) (refs_at rfl (by omega) (by decide)) ?_
  refine rn_getfield dX9_feed_93 fo_X9_101 (h_node (by omega)) rfl ?_
  refine rn_topi ((TS_forget S).1 _ _ (by omega)) ?_
  refine rn_istore_n dX9_feed_96 (by decide) rfl ?_
  refine rn_aload_n dX9_feed_97 rfl ?_
  refine rn_getfield dX9_feed_98 fo_X9_12 h_SH rfl ?_
  refine rn_getfield dX9_feed_101 fo_X9_88 h_chip rfl ?_
  refine rn_iload_n dX9_feed_104 rfl ?_
  refine rn_aaload dX9_feed_105 h_nodes rfl (vp_in_nI (by omega) (by decide)) (refs_at rfl (by omega) (by decide)) ?_
  refine rn_iload_n dX9_feed_106 rfl ?_
  refine rn_pI (a := _ + 13) dX9_feed_107 fp_X9_101 (by omega) (cc_node (by omega)) (cc_nodeI (by omega) (by decide)) (by simp) ⟨rfl, rfl⟩ ⟨_, _, _, rfl, rfl⟩ ?_
  refine rn_iload_n dX9_feed_110 rfl ?_
  exact rn_ret dX9_feed_111 trivial rfl
set_option maxRecDepth 20000 in
theorem c_X9_exception_all {k : Nat} (ho : sI S 0 2 = 0) (hk : sI S 1 7 = nI k) (hk6 : k < 6) : Cn l D ad tc L xs mX9_exception 1 24 [.ref 1, .int 0, .int (-1), .int (-1)] (wd S E, sl) (some (.int (nI k))) (wd (sRul (sForget S) k 0 (-1) (-1)) E, sl) := by
  refine cn_of (lv0 := [(0, .ref 1), (1, .int 0), (2, .int (-1)), (3, .int (-1))]) (by decide +kernel) ⟨_, rfl, rfl⟩ (fun _ => by simp [lg_sl, j_v, Value.category]) (fun _ => rfl) ?_
  have hkF : sI (sForget S) 1 7 = nI k := ((TS_forget S).1 1 7 (by decide)).trans hk
  refine rn_aload_n dX9_exception_0 rfl ?_
  refine rn_aload_n dX9_exception_1 rfl ?_
  refine rn_getfield dX9_exception_2 fo_X9_12 h_SH rfl ?_
  refine rn_getfield dX9_exception_5 fo_X9_128 h_chip rfl ?_
  refine rn_topi (y := nI k) (by first | exact hk | exact hkF) ?_
  refine rn_bipush (v := 6) dX9_exception_8 rfl ?_
  refine rn_icmp_ge (tgt := 17) dX9_exception_10 rfl (fun q1 => absurd q1 (by exact Int32.not_le.mpr (by rw [show (6 : Int32) = nI 6 by decide]; exact nI_lt hk6 (by omega)))) (fun _ => ?_)
  refine rn_iconst (v := 1) dX9_exception_13 rfl ?_
  refine rn_goto (tgt := 18) dX9_exception_14 rfl ?_
  refine rn_callV dX9_exception_18 cv_X9_29 (c_X9_mustBeOpen ho (by decide)) rfl h_SH rfl rfl (by decide) (by decide) rfl (Nat.le_of_ble_eq_true rfl) ?_
  refine rn_iload_n dX9_exception_21 rfl ?_
  refine rn_iconst (v := (-1)) dX9_exception_22 rfl ?_
  refine rn_icmp_eq (tgt := 37) dX9_exception_23 rfl (fun _ => ?_) (fun q2 => absurd (by rfl) q2)
  refine rn_iload_n dX9_exception_37 rfl ?_
  refine rn_iconst (v := (-1)) dX9_exception_38 rfl ?_
  refine rn_icmp_eq (tgt := 53) dX9_exception_39 rfl (fun _ => ?_) (fun q3 => absurd (by rfl) q3)
  refine rn_iconst (v := 1) dX9_exception_53 rfl ?_
  refine rn_goto (tgt := 58) dX9_exception_54 rfl ?_
  refine rn_callS dX9_exception_58 cs_X9_51 (c_X9_mustExist (by decide)) rfl (by decide) (by decide) rfl (Nat.le_of_ble_eq_true rfl) ?_
  refine rn_iload_n dX9_exception_61 rfl ?_
  refine rn_if_eq (tgt := 74) dX9_exception_62 rfl (fun _ => ?_) (fun q4 => absurd (by rfl) q4)
  refine rn_iload_n dX9_exception_74 rfl ?_
  refine rn_iconst (v := (-1)) dX9_exception_75 rfl ?_
  refine rn_icmp_eq (tgt := 94) dX9_exception_76 rfl (fun _ => ?_) (fun q5 => absurd (by rfl) q5)
  refine rn_iload_n dX9_exception_94 rfl ?_
  refine rn_iconst (v := (-1)) dX9_exception_95 rfl ?_
  refine rn_icmp_eq (tgt := 114) dX9_exception_96 rfl (fun _ => ?_) (fun q6 => absurd (by rfl) q6)
  refine rn_iconst (v := 1) dX9_exception_114 rfl ?_
  refine rn_goto (tgt := 119) dX9_exception_115 rfl ?_
  refine rn_callS dX9_exception_119 cs_X9_37 (c_X9_mustFit (by decide)) rfl (by decide) (by decide) rfl (Nat.le_of_ble_eq_true rfl) ?_
  refine rn_aload_n dX9_exception_122 rfl ?_
  refine rn_getfield dX9_exception_123 fo_X9_21 h_SH rfl ?_
  refine rn_callV dX9_exception_126 cv_X9_40 c_X0_forget rfl h_an rfl rfl (by decide) (by decide) rfl (Nat.le_of_ble_eq_true rfl) ?_
  refine rn_aload_n dX9_exception_129 rfl ?_
  refine rn_getfield dX9_exception_130 fo_X9_12 h_SH rfl ?_
  refine rn_iload_n dX9_exception_133 rfl ?_
  refine rn_iload_n dX9_exception_134 rfl ?_
  refine rn_iload_n dX9_exception_135 rfl ?_
  refine rn_callV dX9_exception_136 cv_X9_138 (c_X1_addRule hkF hk6) rfl h_chip rfl rfl (by decide) (by decide) rfl (Nat.le_of_ble_eq_true rfl) ?_
  exact rn_ret dX9_exception_139 trivial rfl
set_option maxRecDepth 20000 in
theorem c_X9_wire {n nr nc nk i q : Nat} {w : Nat → Nat} (ho : sI S 0 2 = 0) (hN : sI S 1 6 = nI n) (hn : n ≤ 16) (hi : i < n) (hq : q ≤ 80) (h1 : 0 ≤ nI q ∧ nI q ≤ 80) (hT : Told (pF2 (sForget S) (i + 13) 6 (fv (q : Nat))) n nr nc nk) (hw : Tw (pF2 (sForget S) (i + 13) 6 (fv (q : Nat))) w) : Cn l D ad tc L xs mX9_wire 5 108 [.ref 1, .int (nI i), .int (nI q)] (wd S E, sl) (some (.int (FP.f2i (sF (sDelays (pF2 (sForget S) (i + 13) 6 (fv (q : Nat))) w n 43) (43 + 1) i)))) (wd (sDelays (pF2 (sForget S) (i + 13) 6 (fv (q : Nat))) w n 43) E, sl) := by
  refine cn_of (lv0 := [(0, .ref 1), (1, .int (nI i)), (2, .int (nI q))]) (by decide +kernel) ⟨_, rfl, rfl⟩ (fun _ => by simp [lg_sl, j_v, Value.category]) (fun _ => rfl) ?_
  refine rn_aload_n dX9_wire_0 rfl ?_
  refine rn_iconst (v := 1) dX9_wire_1 rfl ?_
  refine rn_callV dX9_wire_2 cv_X9_29 (c_X9_mustBeOpen ho (by decide)) rfl h_SH rfl rfl (by decide) (by decide) rfl (Nat.le_of_ble_eq_true rfl) ?_
  refine rn_aload_n dX9_wire_5 rfl ?_
  refine rn_getfield dX9_wire_6 fo_X9_12 h_SH rfl ?_
  refine rn_iload_n dX9_wire_9 rfl ?_
  refine rn_callV dX9_wire_10 cv_X9_85 c_X1_hasNode rfl h_chip rfl rfl (by decide) (by decide) rfl (Nat.le_of_ble_eq_true rfl) ?_
  refine rn_topi (has_n hN hn hi) ?_
  refine rn_callS dX9_wire_13 cs_X9_51 (c_X9_mustExist (by decide)) rfl (by decide) (by decide) rfl (Nat.le_of_ble_eq_true rfl) ?_
  refine rn_iload_n dX9_wire_16 rfl ?_
  refine rn_iconst (v := 0) dX9_wire_17 rfl ?_
  refine rn_bipush (v := 80) dX9_wire_18 rfl ?_
  refine rn_callS dX9_wire_20 cs_X9_33 c_X9_isIn rfl (by decide) (by decide) rfl (Nat.le_of_ble_eq_true rfl) ?_
  refine rn_topi (is_b (decide_eq_true h1)) ?_
  refine rn_callS dX9_wire_23 cs_X9_37 (c_X9_mustFit (by decide)) rfl (by decide) (by decide) rfl (Nat.le_of_ble_eq_true rfl) ?_
  refine rn_aload_n dX9_wire_26 rfl ?_
  refine rn_getfield dX9_wire_27 fo_X9_21 h_SH rfl ?_
  refine rn_callV dX9_wire_30 cv_X9_40 c_X0_forget rfl h_an rfl rfl (by decide) (by decide) rfl (Nat.le_of_ble_eq_true rfl) ?_
  refine rn_aload_n dX9_wire_33 rfl ?_
  refine rn_getfield dX9_wire_34 fo_X9_12 h_SH rfl ?_
  refine rn_getfield dX9_wire_37 fo_X9_88 h_chip rfl ?_
  refine rn_iload_n dX9_wire_40 rfl ?_
  refine rn_aaload dX9_wire_41 h_nodes rfl (vp_in_nI (by omega) (by decide)) (refs_at rfl (by omega) (by decide)) ?_
  refine rn_iload_n dX9_wire_42 rfl ?_
  refine rn_i2f dX9_wire_43 ?_
  refine rn_ldcf dX9_wire_44 wd_435 ?_
  refine rn_fmul dX9_wire_46 (by rw [fv_quarters (nI q) (by rw [nI_toInt (by omega)]; unfold fB; omega) (by rw [nI_toInt (by omega)]; omega)]; exact fv_n _) ?_
  refine rn_topf (y := fv (q : Nat)) (by rw [fv_quarters (nI q) (by rw [nI_toInt (by omega)]; unfold fB; omega) (by rw [nI_toInt (by omega)]; omega), nI_toInt (by omega)]) ?_
  refine rn_pW dX9_wire_47 fp_X9_111 (by omega) ⟨rfl, rfl⟩ ?_
  refine rn_aload_n dX9_wire_50 rfl ?_
  refine rn_getfield dX9_wire_51 fo_X9_21 h_SH rfl ?_
  refine rn_callV dX9_wire_54 cv_X9_115 (c_X0_delays hT hw) rfl h_an rfl rfl (by decide) (by decide) rfl (Nat.le_of_ble_eq_true rfl) ?_
  refine rn_getfield dX9_wire_57 fo_X9_119 (h_del (Or.inl rfl)) rfl ?_
  refine rn_iload_n dX9_wire_60 rfl ?_
  refine rn_faload dX9_wire_61 (h_loads (Or.inl rfl)) rfl (vp_in_nI (by omega) (by decide)) ?_
  rw [nI_clamp (by omega)]
  refine rn_f2i dX9_wire_62 ?_
  exact rn_ret dX9_wire_63 trivial rfl
end T21
