/-! Telling: what Chip adds -/
def sClk (S : jS) (v : Nat) (a b c d e : Int32) : jS := pI (pI (pI (pI (pI (pI S (v + 6) 0 a) (v + 6) 1 b) (v + 6) 2 c) (v + 6) 3 d) (v + 6) 4 e) 1 4 (nI (v + 1))
def sRul (S : jS) (k : Nat) (a b c : Int32) : jS := pI (pI (pI (pI S (k + 29) 0 a) (k + 29) 1 b) (k + 29) 2 c) 1 7 (nI (k + 1))
def sNod0 (S : jS) (i : Nat) (a b c d : Int32) : jS := pI (pI (pI (pI S (i + 13) 0 a) (i + 13) 1 b) (i + 13) 2 c) (i + 13) 3 d
def sNod (S : jS) (i : Nat) (a b c d : Int32) : jS := pI (sNod0 S i a b c d) 1 6 (nI (i + 1))
def sNodC (S : jS) (i : Nat) (a b c : Int32) (v : Nat) : jS := pI (pV (sNod0 S i a b c (nI v)) i v) 1 6 (nI (i + 1))
section T20
variable {l : Launch} {D : va_G} {ad : Nat → Nat} {tc : Nat → ClassId} {L : Nat} {xs : Nat → Int32} {S : jS} {E : List j_C} {sl x : Nat}
set_option maxRecDepth 20000 in
theorem c_X1_addClock {v : Nat} {a b c d e : Int32} (hk : sI S 1 4 = nI v) (hv : v < 4) : Cn l D ad tc L xs mX1_addClock 0 0 [.ref 2, .int a, .int b, .int c, .int d, .int e] (wd S E, sl) (some (.int (nI v))) (wd (sClk S v a b c d e) E, sl) := by
  refine cn_of (lv0 := [(0, .ref 2), (1, .int a), (2, .int b), (3, .int c), (4, .int d), (5, .int e)]) (by decide +kernel) ⟨_, rfl, rfl⟩ (fun _ => by simp [lg_sl, j_v, Value.category]) (fun _ => rfl) ?_
  refine rn_aload_n dX1_addClock_0 rfl ?_
  refine rn_getfield dX1_addClock_1 fo_X1_11 h_chip rfl ?_
  refine rn_aload_n dX1_addClock_4 rfl ?_
  refine rn_getfield dX1_addClock_5 fo_X1_45 h_chip rfl ?_
  refine rn_topi (y := nI v) (by first | exact hk | (show sI (pI _ _ _ _) _ _ = _; simp only [pI_k, ne_eq, Nat.reduceEqDiff, not_false_eq_true, show ¬ (1 = v + 6) by omega, show ¬ (1 = v + 13) by omega, show ¬ (1 = v + 29) by omega]; exact hk)) ?_
  refine rn_aaload dX1_addClock_8 h_clocks rfl (vp_in_nI (by omega) (by decide)) (refs_at rfl (by omega) (by decide)) ?_
  refine rn_astore dX1_addClock_9 (by decide) rfl ?_
  refine rn_aload dX1_addClock_11 rfl ?_
  refine rn_iload_n dX1_addClock_13 rfl ?_
  refine rn_pI (a := v + 6) dX1_addClock_14 fp_X1_51 (by omega) (cc_clock hv) (cc_clockI hv (by decide)) (by simp) ⟨rfl, rfl⟩ ⟨_, _, _, rfl, rfl⟩ ?_
  refine rn_aload dX1_addClock_17 rfl ?_
  refine rn_iload_n dX1_addClock_19 rfl ?_
  refine rn_pI (a := v + 6) dX1_addClock_20 fp_X1_54 (by omega) (cc_clock hv) (cc_clockI hv (by decide)) (by simp) ⟨rfl, rfl⟩ ⟨_, _, _, rfl, rfl⟩ ?_
  refine rn_aload dX1_addClock_23 rfl ?_
  refine rn_iload_n dX1_addClock_25 rfl ?_
  refine rn_pI (a := v + 6) dX1_addClock_26 fp_X1_57 (by omega) (cc_clock hv) (cc_clockI hv (by decide)) (by simp) ⟨rfl, rfl⟩ ⟨_, _, _, rfl, rfl⟩ ?_
  refine rn_aload dX1_addClock_29 rfl ?_
  refine rn_iload dX1_addClock_31 rfl ?_
  refine rn_pI (a := v + 6) dX1_addClock_33 fp_X1_60 (by omega) (cc_clock hv) (cc_clockI hv (by decide)) (by simp) ⟨rfl, rfl⟩ ⟨_, _, _, rfl, rfl⟩ ?_
  refine rn_aload dX1_addClock_36 rfl ?_
  refine rn_iload dX1_addClock_38 rfl ?_
  refine rn_pI (a := v + 6) dX1_addClock_40 fp_X1_63 (by omega) (cc_clock hv) (cc_clockI hv (by decide)) (by simp) ⟨rfl, rfl⟩ ⟨_, _, _, rfl, rfl⟩ ?_
  refine rn_aload_n dX1_addClock_43 rfl ?_
  refine rn_dup dX1_addClock_44 rfl ?_
  refine rn_getfield dX1_addClock_45 fo_X1_45 h_chip rfl ?_
  refine rn_topi (y := nI v) (by first | exact hk | (show sI (pI _ _ _ _) _ _ = _; simp only [pI_k, ne_eq, Nat.reduceEqDiff, not_false_eq_true, show ¬ (1 = v + 6) by omega, show ¬ (1 = v + 13) by omega, show ¬ (1 = v + 29) by omega]; exact hk)) ?_
  refine rn_dup_x1 dX1_addClock_48 rfl rfl ?_
  refine rn_iconst (v := nI 1) dX1_addClock_49 (by decide) ?_
  refine rn_iadd dX1_addClock_50 ?_
  refine rn_topi (nI_add _ _) ?_
  refine rn_pI dX1_addClock_51 fp_X1_45 (by decide) rfl rfl (by simp) ⟨rfl, rfl⟩ ⟨_, _, _, rfl, rfl⟩ ?_
  exact rn_ret dX1_addClock_54 trivial rfl
set_option maxRecDepth 20000 in
theorem c_X1_addRule {k : Nat} {a b c : Int32} (hk : sI S 1 7 = nI k) (hk6 : k < 6) : Cn l D ad tc L xs mX1_addRule 0 0 [.ref 2, .int a, .int b, .int c] (wd S E, sl) (some (.int (nI k))) (wd (sRul S k a b c) E, sl) := by
  refine cn_of (lv0 := [(0, .ref 2), (1, .int a), (2, .int b), (3, .int c)]) (by decide +kernel) ⟨_, rfl, rfl⟩ (fun _ => by simp [lg_sl, j_v, Value.category]) (fun _ => rfl) ?_
  refine rn_aload_n dX1_addRule_0 rfl ?_
  refine rn_getfield dX1_addRule_1 fo_X1_31 h_chip rfl ?_
  refine rn_aload_n dX1_addRule_4 rfl ?_
  refine rn_getfield dX1_addRule_5 fo_X1_95 h_chip rfl ?_
  refine rn_topi (y := nI k) (by first | exact hk | (show sI (pI _ _ _ _) _ _ = _; simp only [pI_k, ne_eq, Nat.reduceEqDiff, not_false_eq_true, show ¬ (1 = k + 6) by omega, show ¬ (1 = k + 13) by omega, show ¬ (1 = k + 29) by omega]; exact hk)) ?_
  refine rn_aaload dX1_addRule_8 h_rules rfl (vp_in_nI (by omega) (by decide)) (refs_at rfl (by omega) (by decide)) ?_
  refine rn_astore dX1_addRule_9 (by decide) rfl ?_
  refine rn_aload dX1_addRule_11 rfl ?_
  refine rn_iload_n dX1_addRule_13 rfl ?_
  refine rn_pI (a := k + 29) dX1_addRule_14 fp_X1_98 (by omega) (cc_rule hk6) (cc_ruleI hk6 (by decide)) (by simp) ⟨rfl, rfl⟩ ⟨_, _, _, rfl, rfl⟩ ?_
  refine rn_aload dX1_addRule_17 rfl ?_
  refine rn_iload_n dX1_addRule_19 rfl ?_
  refine rn_pI (a := k + 29) dX1_addRule_20 fp_X1_101 (by omega) (cc_rule hk6) (cc_ruleI hk6 (by decide)) (by simp) ⟨rfl, rfl⟩ ⟨_, _, _, rfl, rfl⟩ ?_
  refine rn_aload dX1_addRule_23 rfl ?_
  refine rn_iload_n dX1_addRule_25 rfl ?_
  refine rn_pI (a := k + 29) dX1_addRule_26 fp_X1_104 (by omega) (cc_rule hk6) (cc_ruleI hk6 (by decide)) (by simp) ⟨rfl, rfl⟩ ⟨_, _, _, rfl, rfl⟩ ?_
  refine rn_aload_n dX1_addRule_29 rfl ?_
  refine rn_dup dX1_addRule_30 rfl ?_
  refine rn_getfield dX1_addRule_31 fo_X1_95 h_chip rfl ?_
  refine rn_topi (y := nI k) (by first | exact hk | (show sI (pI _ _ _ _) _ _ = _; simp only [pI_k, ne_eq, Nat.reduceEqDiff, not_false_eq_true, show ¬ (1 = k + 6) by omega, show ¬ (1 = k + 13) by omega, show ¬ (1 = k + 29) by omega]; exact hk)) ?_
  refine rn_dup_x1 dX1_addRule_34 rfl rfl ?_
  refine rn_iconst (v := nI 1) dX1_addRule_35 (by decide) ?_
  refine rn_iadd dX1_addRule_36 ?_
  refine rn_topi (nI_add _ _) ?_
  refine rn_pI dX1_addRule_37 fp_X1_95 (by decide) rfl rfl (by simp) ⟨rfl, rfl⟩ ⟨_, _, _, rfl, rfl⟩ ?_
  exact rn_ret dX1_addRule_40 trivial rfl
end T20
