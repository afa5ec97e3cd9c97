/-! Telling: what Chip adds -/
def sClk (S : jS) (v : Nat) (a b c d e : Int32) : jS := pI (pI (pI (pI (pI (pI S (v + 6) 0 a) (v + 6) 1 b) (v + 6) 2 c) (v + 6) 3 d) (v + 6) 4 e) 1 4 (nI (v + 1))
def sRul (S : jS) (k : Nat) (a b c : Int32) : jS := pI (pI (pI (pI S (k + 29) 0 a) (k + 29) 1 b) (k + 29) 2 c) 1 7 (nI (k + 1))
def sNod0 (S : jS) (i : Nat) (a b c d : Int32) : jS := pI (pI (pI (pI S (i + 13) 0 a) (i + 13) 1 b) (i + 13) 2 c) (i + 13) 3 d
def sNod (S : jS) (i : Nat) (a b c d : Int32) : jS := pI (sNod0 S i a b c d) 1 6 (nI (i + 1))
def sNodC (S : jS) (i : Nat) (a b c : Int32) (v : Nat) : jS := pI (pV (sNod0 S i a b c (nI v)) i v) 1 6 (nI (i + 1))
section T20
variable {l : Launch} {D : va_G} {ad : Nat → Nat} {tc : Nat → ClassId} {L : Nat} {xs : Nat → Int32} {S : jS} {E : List j_C} {sl x : Nat}
set_option maxRecDepth 20000 in
theorem c_X1_addClock {v : Nat} {a b c d e : Int32} (hk : sI S 1 4 = nI v) (hv : v < 4) : Cn l D ad tc L xs mX1_addClock 0 0 [.ref 2, .int a, .int b, .int c, .int d, .int e] (wd S E, sl) (some (.int (nI v))) (wd (sClk S v a b c d e) E, sl) := by
  refine cn_of (lv0 := [(0, .ref 2), (1, .int a), (2, .int b), (3, .int c), (4, .int d), (5, .int e)]) (by decide +kernel) ⟨_, rfl, rfl⟩ (fun _ => by simp [lg_sl, j_v, Value.category]) (fun _ => rfl) ?_
  refine rn_aload_n dX1_addClock_0 rfl ?_
  refine rn_getfield dX1_addClock_1 fo_X1_11 h_chip rfl ?_
  refine rn_aload_n dX1_addClock_4 rfl ?_
  refine rn_getfield dX1_addClock_5 fo_X1_45 h_chip rfl ?_
  refine rn_topi (y := nI v) (by first | exact hk | (show sI (pI _ _ _ _) _ _ = _; simp only [pI_k, ne_eq, Nat.reduceEqDiff, not_false_eq_true, show ¬ (1 = v + 6) by omega, show ¬ (1 = v + 13) by omega, show ¬ (1 = v + 29) by omega]; exact hk)) ?_
  refine rn_aaload dX1_addClock_8 h_clocks rfl (vp_in_nI (by omega) (by decide)) (refs_at rfl (by omega) (by decide)) ?_
  refine rn_astore dX1_addClock_9 (by decide) rfl ?_
  refine rn_aload dX1_addClock_11 rfl ?_
  refine rn_iload_n dX1_addClock_13 rfl ?_
  refine rn_pI (a := v + 6) dX1_addClock_14 fp_X1_51 (by omega) (cc_clock hv) (cc_clockI hv (by decide)) (by simp) ⟨rfl, rfl⟩ ⟨_, _, _, rfl, rfl⟩ ?_
  refine rn_aload dX1_addClock_17 rfl ?_
  refine rn_iload_n dX1_addClock_19 rfl ?_
  refine rn_pI (a := v + 6) dX1_addClock_20 fp_X1_54 (by omega) (cc_clock hv) (cc_clockI hv (by decide)) (by simp) ⟨rfl, rfl⟩ ⟨_, _, _, rfl, rfl⟩ ?_
  refine rn_aload dX1_addClock_23 rfl ?_
  refine rn_iload_n dX1_addClock_25 rfl ?_
  refine rn_pI (a := v + 6) dX1_addClock_26 fp_X1_57 (by omega) (cc_clock hv) (cc_clockI hv (by decide)) (by simp) ⟨rfl, rfl⟩ ⟨_, _, _, rfl, rfl⟩ ?_
  refine rn_aload dX1_addClock_29 rfl ?_
  refine rn_iload dX1_addClock_31 rfl ?_
  refine rn_pI (a := v + 6) dX1_addClock_33 fp_X1_60 (by omega) (cc_clock hv) (cc_clockI hv (by decide)) (by simp) ⟨rfl, rfl⟩ ⟨_, _, _, rfl, rfl⟩ ?_
  refine rn_aload dX1_addClock_36 rfl ?_
  refine rn_iload dX1_addClock_38 rfl ?_
  refine rn_pI (a := v + 6) dX1_addClock_40 fp_X1_63 (by omega) (cc_clock hv) (cc_clockI hv (by decide)) (by simp) ⟨rfl, rfl⟩ ⟨_, _, _, rfl, rfl⟩ ?_
  refine rn_aload_n dX1_addClock_43 rfl ?_
  refine rn_dup dX1_addClock_44 rfl ?_
  refine rn_getfield dX1_addClock_45 fo_X1_45 h_chip rfl ?_
  refine rn_topi (y := nI v) (by first | exact hk | (show sI (pI _ _ _ _) _ _ = _; simp only [pI_k, ne_eq, Nat.reduceEqDiff, not_false_eq_true, show ¬ (1 = v + 6) by omega, show ¬ (1 = v + 13) by omega, show ¬ (1 = v + 29) by omega]; exact hk)) ?_
  refine rn_dup_x1 dX1_addClock_48 rfl rfl ?_
  refine rn_iconst (v := nI 1) dX1_addClock_49 (by decide) ?_
  refine rn_iadd dX1_addClock_50 ?_
  refine rn_topi (nI_add _ _) ?_
  refine rn_pI dX1_addClock_51 fp_X1_45 (by decide) rfl rfl (by simp) ⟨rfl, rfl⟩ ⟨_, _, _, rfl, rfl⟩ ?_
  exact rn_ret dX1_addClock_54 trivial rfl
set_option maxRecDepth 20000 in
theorem c_X1_addRule {k : Nat} {a b c : Int32} (hk : sI S 1 7 = nI k) (hk6 : k < 6) : Cn l D ad tc L xs mX1_addRule 0 0 [.ref 2, .int a, .int b, .int c] (wd S E, sl) (some (.int (nI k))) (wd (sRul S k a b c) E, sl) := by
  refine cn_of (lv0 := [(0, .ref 2), (1, .int a), (2, .int b), (3, .int c)]) (by decide +kernel) ⟨_, rfl, rfl⟩ (fun _ => by simp [lg_sl, j_v, Value.category]) (fun _ => rfl) ?_
  refine rn_aload_n dX1_addRule_0 rfl ?_
  refine rn_getfield dX1_addRule_1 fo_X1_31 h_chip rfl ?_
  refine rn_aload_n dX1_addRule_4 rfl ?_
  refine rn_getfield dX1_addRule_5 fo_X1_95 h_chip rfl ?_
  refine rn_topi (y := nI k) (by first | exact hk | (show sI (pI _ _ _ _) _ _ = _; simp only [pI_k, ne_eq, Nat.reduceEqDiff, not_false_eq_true, show ¬ (1 = k + 6) by omega, show ¬ (1 = k + 13) by omega, show ¬ (1 = k + 29) by omega]; exact hk)) ?_
  refine rn_aaload dX1_addRule_8 h_rules rfl (vp_in_nI (by omega) (by decide)) (refs_at rfl (by omega) (by decide)) ?_
  refine rn_astore dX1_addRule_9 (by decide) rfl ?_
  refine rn_aload dX1_addRule_11 rfl ?_
  refine rn_iload_n dX1_addRule_13 rfl ?_
  refine rn_pI (a := k + 29) dX1_addRule_14 fp_X1_98 (by omega) (cc_rule hk6) (cc_ruleI hk6 (by decide)) (by simp) ⟨rfl, rfl⟩ ⟨_, _, _, rfl, rfl⟩ ?_
  refine rn_aload dX1_addRule_17 rfl ?_
  refine rn_iload_n dX1_addRule_19 rfl ?_
  refine rn_pI (a := k + 29) dX1_addRule_20 fp_X1_101 (by omega) (cc_rule hk6) (cc_ruleI hk6 (by decide)) (by simp) ⟨rfl, rfl⟩ ⟨_, _, _, rfl, rfl⟩ ?_
  refine rn_aload dX1_addRule_23 rfl ?_
  refine rn_iload_n dX1_addRule_25 rfl ?_
  refine rn_pI (a := k + 29) dX1_addRule_26 fp_X1_104 (by omega) (cc_rule hk6) (cc_ruleI hk6 (by decide)) (by simp) ⟨rfl, rfl⟩ ⟨_, _, _, rfl, rfl⟩ ?_
  refine rn_aload_n dX1_addRule_29 rfl ?_
  refine rn_dup dX1_addRule_30 rfl ?_
  refine rn_getfield dX1_addRule_31 fo_X1_95 h_chip rfl ?_
  refine rn_topi (y := nI k) (by first | exact hk | (show sI (pI _ _ _ _) _ _ = _; simp only [pI_k, ne_eq, Nat.reduceEqDiff, not_false_eq_true, show ¬ (1 = k + 6) by omega, show ¬ (1 = k + 13) by omega, show ¬ (1 = k + 29) by omega]; exact hk)) ?_
  refine rn_dup_x1 dX1_addRule_34 rfl rfl ?_
  refine rn_iconst (v := nI 1) dX1_addRule_35 (by decide) ?_
  refine rn_iadd dX1_addRule_36 ?_
  refine rn_topi (nI_add _ _) ?_
  refine rn_pI dX1_addRule_37 fp_X1_95 (by decide) rfl rfl (by simp) ⟨rfl, rfl⟩ ⟨_, _, _, rfl, rfl⟩ ?_
  exact rn_ret dX1_addRule_40 trivial rfl
set_option maxRecDepth 20000 in
theorem c_X1_addNode_0 {i : Nat} {a b c : Int32} (hk : sI S 1 6 = nI i) (hi : i < 16) : Cn l D ad tc L xs mX1_addNode 1 21 [.ref 2, .int a, .int b, .int c, .int (-1)] (wd S E, sl) (some (.int (nI i))) (wd (sNod S i a b c (-1)) E, sl) := by
  refine cn_of (lv0 := [(0, .ref 2), (1, .int a), (2, .int b), (3, .int c), (4, .int (-1))]) (by decide +kernel) ⟨_, rfl, rfl⟩ (fun _ => by simp [lg_sl, j_v, Value.category]) (fun _ => rfl) ?_
  refine rn_aload_n dX1_addNode_0 rfl ?_
  refine rn_getfield dX1_addNode_1 fo_X1_25 h_chip rfl ?_
  refine rn_aload_n dX1_addNode_4 rfl ?_
  refine rn_getfield dX1_addNode_5 fo_X1_48 h_chip rfl ?_
  refine rn_topi (y := nI i) (by first | exact hk | (show sI (pI (pI (pI (pI S (i + 13) 0 _) (i + 13) 1 _) (i + 13) 2 _) (i + 13) 3 _) 1 6 = _; rw [pI_k (by omega), pI_k (by omega), pI_k (by omega), pI_k (by omega)]; exact hk)) ?_
  refine rn_aaload dX1_addNode_8 h_nodes rfl (vp_in_nI (by omega) (by decide)) (refs_at rfl (by omega) (by decide)) ?_
  refine rn_astore dX1_addNode_9 (by decide) rfl ?_
  refine rn_aload dX1_addNode_11 rfl ?_
  refine rn_iload_n dX1_addNode_13 rfl ?_
  refine rn_pI (a := i + 13) dX1_addNode_14 fp_X1_75 (by omega) (cc_node hi) (cc_nodeI hi (by decide)) (by simp) ⟨rfl, rfl⟩ ⟨_, _, _, rfl, rfl⟩ ?_
  refine rn_aload dX1_addNode_17 rfl ?_
  refine rn_iload_n dX1_addNode_19 rfl ?_
  refine rn_pI (a := i + 13) dX1_addNode_20 fp_X1_78 (by omega) (cc_node hi) (cc_nodeI hi (by decide)) (by simp) ⟨rfl, rfl⟩ ⟨_, _, _, rfl, rfl⟩ ?_
  refine rn_aload dX1_addNode_23 rfl ?_
  refine rn_iload_n dX1_addNode_25 rfl ?_
  refine rn_pI (a := i + 13) dX1_addNode_26 fp_X1_81 (by omega) (cc_node hi) (cc_nodeI hi (by decide)) (by simp) ⟨rfl, rfl⟩ ⟨_, _, _, rfl, rfl⟩ ?_
  refine rn_aload dX1_addNode_29 rfl ?_
  refine rn_iload dX1_addNode_31 rfl ?_
  refine rn_pI (a := i + 13) dX1_addNode_33 fp_X1_84 (by omega) (cc_node hi) (cc_nodeI hi (by decide)) (by simp) ⟨rfl, rfl⟩ ⟨_, _, _, rfl, rfl⟩ ?_
  refine rn_aload_n dX1_addNode_36 rfl ?_
  refine rn_iload dX1_addNode_37 rfl ?_
  refine rn_callV dX1_addNode_39 cv_X1_87 c_X1_hasClock rfl h_chip rfl rfl (by decide) (by decide) rfl (Nat.le_of_ble_eq_true rfl) ?_
  refine rn_topi (y := 0) (by rw [decide_eq_false (fun z => absurd z.1 (by decide))]; rfl) ?_
  refine rn_if_eq (tgt := 57) dX1_addNode_42 rfl (fun _ => ?_) (fun q1 => absurd (by rfl) q1)
  refine rn_aload_n dX1_addNode_57 rfl ?_
  refine rn_dup dX1_addNode_58 rfl ?_
  refine rn_getfield dX1_addNode_59 fo_X1_48 h_chip rfl ?_
  refine rn_topi (y := nI i) (by first | exact hk | (show sI (pI (pI (pI (pI S (i + 13) 0 _) (i + 13) 1 _) (i + 13) 2 _) (i + 13) 3 _) 1 6 = _; rw [pI_k (by omega), pI_k (by omega), pI_k (by omega), pI_k (by omega)]; exact hk)) ?_
  refine rn_dup_x1 dX1_addNode_62 rfl rfl ?_
  refine rn_iconst (v := nI 1) dX1_addNode_63 (by decide) ?_
  refine rn_iadd dX1_addNode_64 ?_
  refine rn_topi (nI_add _ _) ?_
  refine rn_pI dX1_addNode_65 fp_X1_48 (by decide) rfl rfl (by simp) ⟨rfl, rfl⟩ ⟨_, _, _, rfl, rfl⟩ ?_
  exact rn_ret dX1_addNode_68 trivial rfl
set_option maxRecDepth 20000 in
theorem c_X1_addNode_c {i v nk : Nat} {a b c : Int32} (hk : sI S 1 6 = nI i) (hi : i < 16) (hn : sI S 1 4 = nI nk) (hn4 : nk ≤ 4) (hv : v < nk) : Cn l D ad tc L xs mX1_addNode 1 21 [.ref 2, .int a, .int b, .int c, .int (nI v)] (wd S E, sl) (some (.int (nI i))) (wd (sNodC S i a b c v) E, sl) := by
  refine cn_of (lv0 := [(0, .ref 2), (1, .int a), (2, .int b), (3, .int c), (4, .int (nI v))]) (by decide +kernel) ⟨_, rfl, rfl⟩ (fun _ => by simp [lg_sl, j_v, Value.category]) (fun _ => rfl) ?_
  refine rn_aload_n dX1_addNode_0 rfl ?_
  refine rn_getfield dX1_addNode_1 fo_X1_25 h_chip rfl ?_
  refine rn_aload_n dX1_addNode_4 rfl ?_
  refine rn_getfield dX1_addNode_5 fo_X1_48 h_chip rfl ?_
  refine rn_topi (y := nI i) (by first | exact hk | (show sI (pI (pI (pI (pI S (i + 13) 0 _) (i + 13) 1 _) (i + 13) 2 _) (i + 13) 3 _) 1 6 = _; rw [pI_k (by omega), pI_k (by omega), pI_k (by omega), pI_k (by omega)]; exact hk)) ?_
  refine rn_aaload dX1_addNode_8 h_nodes rfl (vp_in_nI (by omega) (by decide)) (refs_at rfl (by omega) (by decide)) ?_
  refine rn_astore dX1_addNode_9 (by decide) rfl ?_
  refine rn_aload dX1_addNode_11 rfl ?_
  refine rn_iload_n dX1_addNode_13 rfl ?_
  refine rn_pI (a := i + 13) dX1_addNode_14 fp_X1_75 (by omega) (cc_node hi) (cc_nodeI hi (by decide)) (by simp) ⟨rfl, rfl⟩ ⟨_, _, _, rfl, rfl⟩ ?_
  refine rn_aload dX1_addNode_17 rfl ?_
  refine rn_iload_n dX1_addNode_19 rfl ?_
  refine rn_pI (a := i + 13) dX1_addNode_20 fp_X1_78 (by omega) (cc_node hi) (cc_nodeI hi (by decide)) (by simp) ⟨rfl, rfl⟩ ⟨_, _, _, rfl, rfl⟩ ?_
  refine rn_aload dX1_addNode_23 rfl ?_
  refine rn_iload_n dX1_addNode_25 rfl ?_
  refine rn_pI (a := i + 13) dX1_addNode_26 fp_X1_81 (by omega) (cc_node hi) (cc_nodeI hi (by decide)) (by simp) ⟨rfl, rfl⟩ ⟨_, _, _, rfl, rfl⟩ ?_
  refine rn_aload dX1_addNode_29 rfl ?_
  refine rn_iload dX1_addNode_31 rfl ?_
  refine rn_pI (a := i + 13) dX1_addNode_33 fp_X1_84 (by omega) (cc_node hi) (cc_nodeI hi (by decide)) (by simp) ⟨rfl, rfl⟩ ⟨_, _, _, rfl, rfl⟩ ?_
  refine rn_aload_n dX1_addNode_36 rfl ?_
  refine rn_iload dX1_addNode_37 rfl ?_
  refine rn_callV dX1_addNode_39 cv_X1_87 c_X1_hasClock rfl h_chip rfl rfl (by decide) (by decide) rfl (Nat.le_of_ble_eq_true rfl) ?_
  refine rn_topi (y := 1) (by rw [show sI _ 1 4 = nI nk from ((pI_k (by omega)).trans ((pI_k (by omega)).trans ((pI_k (by omega)).trans (pI_k (by omega))))).trans hn, decide_eq_true ⟨Int32.not_lt.mp (nI_pos (by omega)), nI_lt hv (by omega)⟩]; rfl) ?_
  refine rn_if_eq (tgt := 57) dX1_addNode_42 rfl (fun q1 => absurd q1 (by decide)) (fun _ => ?_)
  refine rn_aload dX1_addNode_45 rfl ?_
  refine rn_aload_n dX1_addNode_47 rfl ?_
  refine rn_getfield dX1_addNode_48 fo_X1_11 h_chip rfl ?_
  refine rn_iload dX1_addNode_51 rfl ?_
  refine rn_aaload dX1_addNode_53 h_clocks rfl (vp_in_nI (by omega) (by decide)) (refs_at rfl (by omega) (by decide)) ?_
  refine rn_pV dX1_addNode_54 fp_X1_91 hi (fun _ => ⟨rfl, rfl⟩) ?_
  refine rn_aload_n dX1_addNode_57 rfl ?_
  refine rn_dup dX1_addNode_58 rfl ?_
  refine rn_getfield dX1_addNode_59 fo_X1_48 h_chip rfl ?_
  refine rn_topi (y := nI i) (by first | exact hk | (show sI (pI (pI (pI (pI S (i + 13) 0 _) (i + 13) 1 _) (i + 13) 2 _) (i + 13) 3 _) 1 6 = _; rw [pI_k (by omega), pI_k (by omega), pI_k (by omega), pI_k (by omega)]; exact hk)) ?_
  refine rn_dup_x1 dX1_addNode_62 rfl rfl ?_
  refine rn_iconst (v := nI 1) dX1_addNode_63 (by decide) ?_
  refine rn_iadd dX1_addNode_64 ?_
  refine rn_topi (nI_add _ _) ?_
  refine rn_pI dX1_addNode_65 fp_X1_48 (by decide) rfl rfl (by simp) ⟨rfl, rfl⟩ ⟨_, _, _, rfl, rfl⟩ ?_
  exact rn_ret dX1_addNode_68 trivial rfl
def sCor (S : jS) (c a b : Nat) : jS := pI (pD2 (pD2 S (c + 10) 0 (dv (512 * a))) (c + 10) 1 (dv (512 * b))) 1 5 (nI (c + 1))
set_option maxRecDepth 20000 in
theorem c_X1_addCorner {c a b : Nat} (hk : sI S 1 5 = nI c) (hc : c < 3) (ha : a ≤ 16) (hb : b ≤ 16) : Cn l D ad tc L xs mX1_addCorner 0 0 [.ref 2, .int (nI a), .int (nI b)] (wd S E, sl) (some (.int (nI c))) (wd (sCor S c a b) E, sl) := by
  refine cn_of (lv0 := [(0, .ref 2), (1, .int (nI a)), (2, .int (nI b))]) (by decide +kernel) ⟨_, rfl, rfl⟩ (fun _ => by simp [lg_sl, j_v, Value.category]) (fun _ => rfl) ?_
  refine rn_aload_n dX1_addCorner_0 rfl ?_
  refine rn_getfield dX1_addCorner_1 fo_X1_19 h_chip rfl ?_
  refine rn_aload_n dX1_addCorner_4 rfl ?_
  refine rn_getfield dX1_addCorner_5 fo_X1_35 h_chip rfl ?_
  refine rn_topi (y := nI c) hk ?_
  refine rn_aaload dX1_addCorner_8 h_corners rfl (vp_in_nI (by omega) (by decide)) (refs_at rfl (by omega) (by decide)) ?_
  refine rn_iload_n dX1_addCorner_9 rfl ?_
  refine rn_i2dv dX1_addCorner_10 ?_
  rw [nI_toInt (by omega)]
  refine rn_dcon (n := 0) (m := 512) dX1_addCorner_11 wd_115 (by decide +kernel) ?_
  refine rn_dmulv (c := 512 * (a : Nat)) dX1_addCorner_14 (dB_of (by omega) (by omega)) (dB_of (by omega) (by omega)) (by omega) (by omega) (by omega) ?_
  refine rn_pC dX1_addCorner_15 fp_X1_68 hc (Or.inl rfl) ⟨rfl, rfl⟩ ?_
  refine rn_aload_n dX1_addCorner_18 rfl ?_
  refine rn_getfield dX1_addCorner_19 fo_X1_19 h_chip rfl ?_
  refine rn_aload_n dX1_addCorner_22 rfl ?_
  refine rn_getfield dX1_addCorner_23 fo_X1_35 h_chip rfl ?_
  refine rn_topi (y := nI c) hk ?_
  refine rn_aaload dX1_addCorner_26 h_corners rfl (vp_in_nI (by omega) (by decide)) (refs_at rfl (by omega) (by decide)) ?_
  refine rn_iload_n dX1_addCorner_27 rfl ?_
  refine rn_i2dv dX1_addCorner_28 ?_
  rw [nI_toInt (by omega)]
  refine rn_dcon (n := 0) (m := 512) dX1_addCorner_29 wd_115 (by decide +kernel) ?_
  refine rn_dmulv (c := 512 * (b : Nat)) dX1_addCorner_32 (dB_of (by omega) (by omega)) (dB_of (by omega) (by omega)) (by omega) (by omega) (by omega) ?_
  refine rn_pC dX1_addCorner_33 fp_X1_72 hc (Or.inr rfl) ⟨rfl, rfl⟩ ?_
  refine rn_aload_n dX1_addCorner_36 rfl ?_
  refine rn_dup dX1_addCorner_37 rfl ?_
  refine rn_getfield dX1_addCorner_38 fo_X1_35 h_chip rfl ?_
  refine rn_topi (y := nI c) hk ?_
  refine rn_dup_x1 dX1_addCorner_41 rfl rfl ?_
  refine rn_iconst (v := nI 1) dX1_addCorner_42 (by decide) ?_
  refine rn_iadd dX1_addCorner_43 ?_
  refine rn_topi (nI_add _ _) ?_
  refine rn_pI dX1_addCorner_44 fp_X1_35 (by decide) rfl rfl (by simp) ⟨rfl, rfl⟩ ⟨_, _, _, rfl, rfl⟩ ?_
  exact rn_ret dX1_addCorner_47 trivial rfl
end T20
