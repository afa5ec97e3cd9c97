/-! what a fresh chip needs of the class: forget, telling a clock, a corner, an exception (whole's own parts) -/
section X1
variable {l : Launch} {D : va_G} {ad : Nat → Nat} {tc : Nat → ClassId} {L : Nat} {xs : Nat → Int32} {M : j_M} {d lo pc : Nat} {lv : j_L} {st : List Value} {h h' : j_H} {r : Option Value}
theorem cc_del {S : jS} {x : Nat} (h : x = 43 ∨ x = 46) : cc S x = .inr (4, [.ref 2, .ref (x + 2), .ref (x + 3), .int (sI S x 3)]) := by rcases h with rfl | rfl <;> rfl
theorem cc_delI {S : jS} {x : Nat} {v : Int32} (h : x = 43 ∨ x = 46) : cc (pI S x 3 v) x = .inr (4, [.ref 2, .ref (x + 2), .ref (x + 3), .int (sI S x 3)].set 3 (.int v)) := by rcases h with rfl | rfl <;> rfl
theorem rn_topr {x y : Nat} (e : x = y) (k : Rn l D ad tc L xs M d lo pc lv (.ref y :: st) h r h') : Rn l D ad tc L xs M d lo pc lv (.ref x :: st) h r h' := e ▸ k
theorem rn_tableIn {dflt a b : Int} {offs : Array Int} {len : Nat} {x : Int32} {off : Int} {tgt : Nat} (hd : decode M.2.1 pc = .ok (.tableswitch dflt a b offs, len)) (h1 : ¬ x.toInt < a) (h2 : ¬ b < x.toInt) (ho : offs[(x.toInt - a).toNat]? = some off) (ht : (pc : Int) + off = (tgt : Int)) (k : Rn l D ad tc L xs M d lo tgt lv st h r h') : Rn l D ad tc L xs M d lo pc lv (.int x :: st) h r h' :=
  rn_pure (fun p e R s m args below meth c H locs cells slots ls Q hF hd1 hd2 hl hP hS k => lv_tableIn hF.1 hF.2.1 hd h1 h2 ho ht k) k
theorem rn_tableOut {dflt a b : Int} {offs : Array Int} {len : Nat} {x : Int32} {tgt : Nat} (hd : decode M.2.1 pc = .ok (.tableswitch dflt a b offs, len)) (h0 : x.toInt < a ∨ b < x.toInt) (ht : (pc : Int) + dflt = (tgt : Int)) (k : Rn l D ad tc L xs M d lo tgt lv st h r h') : Rn l D ad tc L xs M d lo pc lv (.int x :: st) h r h' :=
  rn_pure (fun p e R s m args below meth c H locs cells slots ls Q hF hd1 hd2 hl hP hS k => lv_tableOut hF.1 hF.2.1 hd h0 ht k) k
end X1
section X2
variable {l : Launch} {D : va_G} {ad : Nat → Nat} {tc : Nat → ClassId} {L : Nat} {xs : Nat → Int32} {S : jS} {E : List j_C} {sl x : Nat}
def sFg1 (S : jS) (c : Nat) : jS := pI (pI S (5 * (2 * c + 1) + 49) 8 0) (5 * (2 * c + 2) + 49) 8 0
def sForget (S : jS) : jS := sFg1 (sFg1 (sFg1 (pI (pI S 38 5 0) 43 3 0) 0) 1) 2
set_option maxRecDepth 20000 in
theorem lp_forget {c : Nat} {r : Option Value} {h' : j_H} (hc : c < 3) (K : Rn l D ad tc L xs mX0_forget 0 0 43 [(1, .int (nI c)), (0, .ref 36)] [] (wd (sFg1 S c) E, sl) r h') : Rn l D ad tc L xs mX0_forget 0 0 23 [(1, .int (nI c)), (0, .ref 36)] [] (wd S E, sl) r h' := by
  refine rn_aload_n dX0_forget_23 rfl ?_
  refine rn_getfield dX0_forget_24 fo_X0_11 h_an rfl ?_
  refine rn_iload_n dX0_forget_27 rfl ?_
  refine rn_aaload dX0_forget_28 h_lates rfl (vp_in_nI (by omega) (by decide)) (tref_at rfl (by omega)) ?_
  refine rn_topr (y := 5 * (2 * c + 1) + 50) (by omega) ?_
  refine rn_iconst (v := 0) dX0_forget_29 rfl ?_
  refine rn_pI (a := 5 * (2 * c + 1) + 49) dX0_forget_30 fp_X0_55 (by omega) cc_tim cc_timI (by simp) ⟨rfl, rfl⟩ ⟨_, _, _, rfl, rfl⟩ ?_
  refine rn_aload_n dX0_forget_33 rfl ?_
  refine rn_getfield dX0_forget_34 fo_X0_17 h_an rfl ?_
  refine rn_iload_n dX0_forget_37 rfl ?_
  refine rn_aaload dX0_forget_38 h_earlies rfl (vp_in_nI (by omega) (by decide)) (tref_at rfl (by omega)) ?_
  refine rn_topr (y := 5 * (2 * c + 2) + 50) (by omega) ?_
  refine rn_iconst (v := 0) dX0_forget_39 rfl ?_
  refine rn_pI (a := 5 * (2 * c + 2) + 49) dX0_forget_40 fp_X0_55 (by omega) cc_tim cc_timI (by simp) ⟨rfl, rfl⟩ ⟨_, _, _, rfl, rfl⟩ ?_
  exact rn_subg rfl K
set_option maxRecDepth 20000 in
theorem c_X0_forget  : Cn l D ad tc L xs mX0_forget 0 0 [.ref 36] (wd S E, sl) none (wd (sForget S) E, sl) := by
  refine cn_of (lv0 := [(0, .ref 36)]) (by decide +kernel) rfl (fun _ => by simp [lg_sl, j_v, Value.category]) (fun _ => rfl) ?_
  refine rn_aload_n dX0_forget_0 rfl ?_
  refine rn_getfield dX0_forget_1 fo_X0_29 h_an rfl ?_
  refine rn_iconst (v := 0) dX0_forget_4 rfl ?_
  refine rn_pI dX0_forget_5 fp_X0_50 (by decide) rfl rfl (by simp) ⟨rfl, rfl⟩ ⟨_, _, _, rfl, rfl⟩ ?_
  refine rn_aload_n dX0_forget_8 rfl ?_
  refine rn_getfield dX0_forget_9 fo_X0_36 h_an rfl ?_
  refine rn_iconst (v := 0) dX0_forget_12 rfl ?_
  refine rn_pI (a := 43) dX0_forget_13 fp_X0_54 (by decide) (cc_del (Or.inl rfl)) (cc_delI (Or.inl rfl)) (by simp) ⟨rfl, rfl⟩ ⟨_, _, _, rfl, rfl⟩ ?_
  refine rn_iconst (v := 0) dX0_forget_16 rfl ?_
  refine rn_istore_n dX0_forget_17 (by decide) rfl ?_
  refine rn_iload_n dX0_forget_18 rfl ?_
  refine rn_iconst (v := 3) dX0_forget_19 rfl ?_
  refine rn_icmp_ge (tgt := 49) dX0_forget_20 rfl (fun q => absurd q (by decide)) (fun _ => ?_)
  refine rn_subg (lv' := [(1, .int (nI 0)), (0, .ref 36)]) rfl (lp_forget (by decide) ?_)
  refine rn_iinc (v := 1) dX0_forget_43 rfl (by decide) (by decide) rfl ?_
  refine rn_goto (tgt := 18) dX0_forget_46 rfl ?_
  refine rn_iload_n dX0_forget_18 rfl ?_
  refine rn_iconst (v := 3) dX0_forget_19 rfl ?_
  refine rn_icmp_ge (tgt := 49) dX0_forget_20 rfl (fun q => absurd q (by decide)) (fun _ => ?_)
  refine rn_subg (lv' := [(1, .int (nI 1)), (0, .ref 36)]) rfl (lp_forget (by decide) ?_)
  refine rn_iinc (v := 2) dX0_forget_43 rfl (by decide) (by decide) rfl ?_
  refine rn_goto (tgt := 18) dX0_forget_46 rfl ?_
  refine rn_iload_n dX0_forget_18 rfl ?_
  refine rn_iconst (v := 3) dX0_forget_19 rfl ?_
  refine rn_icmp_ge (tgt := 49) dX0_forget_20 rfl (fun q => absurd q (by decide)) (fun _ => ?_)
  refine rn_subg (lv' := [(1, .int (nI 2)), (0, .ref 36)]) rfl (lp_forget (by decide) ?_)
  refine rn_iinc (v := 3) dX0_forget_43 rfl (by decide) (by decide) rfl ?_
  refine rn_goto (tgt := 18) dX0_forget_46 rfl ?_
  refine rn_iload_n dX0_forget_18 rfl ?_
  refine rn_iconst (v := 3) dX0_forget_19 rfl ?_
  refine rn_icmp_ge (tgt := 49) dX0_forget_20 rfl (fun _ => ?_) (fun q => absurd (by decide) q)
  exact rn_ret dX0_forget_49 trivial rfl
/-- the told parts of two states are one -/
def TS (S S' : jS) : Prop := (∀ k f, k < 35 → S'.1 k f = S.1 k f) ∧ (∀ k f, k < 13 → S'.2.2.1 k f = S.2.2.1 k f) ∧ (∀ k f, k < 35 → S'.2.2.2.1 k f = S.2.2.2.1 k f) ∧ S'.2.2.2.2 = S.2.2.2.2
theorem TS_r (S : jS) : TS S S := ⟨fun _ _ _ => rfl, fun _ _ _ => rfl, fun _ _ _ => rfl, rfl⟩
theorem TS_t {S S' S2 : jS} (h : TS S S') (h2 : TS S' S2) : TS S S2 := ⟨fun k f q => (h2.1 k f q).trans (h.1 k f q), fun k f q => (h2.2.1 k f q).trans (h.2.1 k f q), fun k f q => (h2.2.2.1 k f q).trans (h.2.2.1 k f q), h2.2.2.2.trans h.2.2.2⟩
theorem TS_I (S : jS) {k f : Nat} {v : Int32} (h : 35 ≤ k) : TS S (pI S k f v) := ⟨fun _ _ q => up2_k _ _ (by omega), fun _ _ _ => rfl, fun _ _ _ => rfl, rfl⟩
theorem TS_forget (S : jS) : TS S (sForget S) := TS_t (TS_t (TS_t (TS_t (TS_t (TS_I S (by decide)) (TS_I _ (by decide))) (TS_t (TS_I _ (by decide)) (TS_I _ (by decide)))) (TS_t (TS_I _ (by decide)) (TS_I _ (by decide)))) (TS_t (TS_I _ (by decide)) (TS_I _ (by decide)))) (TS_r _)
theorem has_n {S : jS} {n i : Nat} (hN : sI S 1 6 = nI n) (hn : n ≤ 16) (hi : i < n) : bI (decide (0 ≤ nI i ∧ nI i < sI S 1 6)) = 1 := by
  rw [hN, decide_eq_true ⟨Int32.not_lt.mp (nI_pos (by omega)), nI_lt hi (by omega)⟩]
  rfl
theorem is_b {p : Bool} (h : p = true) : bI p = 1 := by rw [h]; rfl
set_option maxRecDepth 20000 in
theorem c_X9_mustExist {b : Int32} (hb : ¬ b = 0) : Cn l D ad tc L xs mX9_mustExist 0 0 [.int b] (wd S E, sl) none (wd S E, sl) := by
  refine cn_of (lv0 := [(0, .int b)]) (by decide +kernel) rfl (fun _ => by simp [lg_sl, j_v, Value.category]) (fun _ => rfl) ?_
  refine rn_iload_n dX9_mustExist_0 rfl ?_
  refine rn_if_ne (tgt := 15) dX9_mustExist_1 rfl (fun _ => ?_) (fun q1 => absurd q1 (by exact hb))
  exact rn_ret dX9_mustExist_15 trivial rfl
set_option maxRecDepth 20000 in
theorem c_X9_mustFit {b : Int32} (hb : ¬ b = 0) : Cn l D ad tc L xs mX9_mustFit 0 0 [.int b] (wd S E, sl) none (wd S E, sl) := by
  refine cn_of (lv0 := [(0, .int b)]) (by decide +kernel) rfl (fun _ => by simp [lg_sl, j_v, Value.category]) (fun _ => rfl) ?_
  refine rn_iload_n dX9_mustFit_0 rfl ?_
  refine rn_if_ne (tgt := 15) dX9_mustFit_1 rfl (fun _ => ?_) (fun q1 => absurd q1 (by exact hb))
  exact rn_ret dX9_mustFit_15 trivial rfl
set_option maxRecDepth 20000 in
theorem c_X9_mustBeOpen {b : Int32} (ho : sI S 0 2 = 0) (hb : ¬ b = 0) : Cn l D ad tc L xs mX9_mustBeOpen 0 0 [.ref 1, .int b] (wd S E, sl) none (wd S E, sl) := by
  refine cn_of (lv0 := [(0, .ref 1), (1, .int b)]) (by decide +kernel) rfl (fun _ => by simp [lg_sl, j_v, Value.category]) (fun _ => rfl) ?_
  refine rn_aload_n dX9_mustBeOpen_0 rfl ?_
  refine rn_getfield dX9_mustBeOpen_1 fo_X9_142 h_SH rfl ?_
  refine rn_topi ho ?_
  refine rn_if_ne (tgt := 11) dX9_mustBeOpen_4 rfl (fun q1 => absurd q1 (by decide)) (fun _ => ?_)
  refine rn_iload_n dX9_mustBeOpen_7 rfl ?_
  refine rn_if_ne (tgt := 22) dX9_mustBeOpen_8 rfl (fun _ => ?_) (fun q2 => absurd q2 (by exact hb))
  exact rn_ret dX9_mustBeOpen_22 trivial rfl
def sClk (S : jS) (v : Nat) (a b c d e : Int32) : jS := pI (pI (pI (pI (pI (pI S (v + 6) 0 a) (v + 6) 1 b) (v + 6) 2 c) (v + 6) 3 d) (v + 6) 4 e) 1 4 (nI (v + 1))
def sRul (S : jS) (k : Nat) (a b c : Int32) : jS := pI (pI (pI (pI S (k + 29) 0 a) (k + 29) 1 b) (k + 29) 2 c) 1 7 (nI (k + 1))
def sCor (S : jS) (c a b : Nat) : jS := pI (pD2 (pD2 S (c + 10) 0 (dv (512 * a))) (c + 10) 1 (dv (512 * b))) 1 5 (nI (c + 1))
set_option maxRecDepth 20000 in
theorem c_X1_addClock {v : Nat} {a b c d e : Int32} (hk : sI S 1 4 = nI v) (hv : v < 4) : Cn l D ad tc L xs mX1_addClock 0 0 [.ref 2, .int a, .int b, .int c, .int d, .int e] (wd S E, sl) (some (.int (nI v))) (wd (sClk S v a b c d e) E, sl) := by
  refine cn_of (lv0 := [(0, .ref 2), (1, .int a), (2, .int b), (3, .int c), (4, .int d), (5, .int e)]) (by decide +kernel) ⟨_, rfl, rfl⟩ (fun _ => by simp [lg_sl, j_v, Value.category]) (fun _ => rfl) ?_
  refine rn_aload_n dX1_addClock_0 rfl ?_
  refine rn_getfield dX1_addClock_1 fo_X1_11 h_chip rfl ?_
  refine rn_aload_n dX1_addClock_4 rfl ?_
  refine rn_getfield dX1_addClock_5 fo_X1_45 h_chip rfl ?_
  refine rn_topi (y := nI v) (by first | exact hk | (show sI (pI _ _ _ _) _ _ = _; simp only [pI_k, ne_eq, Nat.reduceEqDiff, not_false_eq_true, show ¬ (1 = v + 6) by omega, show ¬ (1 = v + 13) by omega, show ¬ (1 = v + 29) by omega]; exact hk)) ?_
  refine rn_aaload dX1_addClock_8 h_clocks rfl (vp_in_nI (by omega) (by decide)) (refs_at rfl (by omega) (by decide)) ?_
  refine rn_astore dX1_addClock_9 (by decide) rfl ?_
  refine rn_aload dX1_addClock_11 rfl ?_
  refine rn_iload_n dX1_addClock_13 rfl ?_
  refine rn_pI (a := v + 6) dX1_addClock_14 fp_X1_51 (by omega) (cc_clock hv) (cc_clockI hv (by decide)) (by simp) ⟨rfl, rfl⟩ ⟨_, _, _, rfl, rfl⟩ ?_
  refine rn_aload dX1_addClock_17 rfl ?_
  refine rn_iload_n dX1_addClock_19 rfl ?_
  refine rn_pI (a := v + 6) dX1_addClock_20 fp_X1_54 (by omega) (cc_clock hv) (cc_clockI hv (by decide)) (by simp) ⟨rfl, rfl⟩ ⟨_, _, _, rfl, rfl⟩ ?_
  refine rn_aload dX1_addClock_23 rfl ?_
  refine rn_iload_n dX1_addClock_25 rfl ?_
  refine rn_pI (a := v + 6) dX1_addClock_26 fp_X1_57 (by omega) (cc_clock hv) (cc_clockI hv (by decide)) (by simp) ⟨rfl, rfl⟩ ⟨_, _, _, rfl, rfl⟩ ?_
  refine rn_aload dX1_addClock_29 rfl ?_
  refine rn_iload dX1_addClock_31 rfl ?_
  refine rn_pI (a := v + 6) dX1_addClock_33 fp_X1_60 (by omega) (cc_clock hv) (cc_clockI hv (by decide)) (by simp) ⟨rfl, rfl⟩ ⟨_, _, _, rfl, rfl⟩ ?_
  refine rn_aload dX1_addClock_36 rfl ?_
  refine rn_iload dX1_addClock_38 rfl ?_
  refine rn_pI (a := v + 6) dX1_addClock_40 fp_X1_63 (by omega) (cc_clock hv) (cc_clockI hv (by decide)) (by simp) ⟨rfl, rfl⟩ ⟨_, _, _, rfl, rfl⟩ ?_
  refine rn_aload_n dX1_addClock_43 rfl ?_
  refine rn_dup dX1_addClock_44 rfl ?_
  refine rn_getfield dX1_addClock_45 fo_X1_45 h_chip rfl ?_
  refine rn_topi (y := nI v) (by first | exact hk | (show sI (pI _ _ _ _) _ _ = _; simp only [pI_k, ne_eq, Nat.reduceEqDiff, not_false_eq_true, show ¬ (1 = v + 6) by omega, show ¬ (1 = v + 13) by omega, show ¬ (1 = v + 29) by omega]; exact hk)) ?_
  refine rn_dup_x1 dX1_addClock_48 rfl rfl ?_
  refine rn_iconst (v := nI 1) dX1_addClock_49 (by decide) ?_
  refine rn_iadd dX1_addClock_50 ?_
  refine rn_topi (nI_add _ _) ?_
  refine rn_pI dX1_addClock_51 fp_X1_45 (by decide) rfl rfl (by simp) ⟨rfl, rfl⟩ ⟨_, _, _, rfl, rfl⟩ ?_
  exact rn_ret dX1_addClock_54 trivial rfl
set_option maxRecDepth 20000 in
theorem c_X1_addRule {k : Nat} {a b c : Int32} (hk : sI S 1 7 = nI k) (hk6 : k < 6) : Cn l D ad tc L xs mX1_addRule 0 0 [.ref 2, .int a, .int b, .int c] (wd S E, sl) (some (.int (nI k))) (wd (sRul S k a b c) E, sl) := by
  refine cn_of (lv0 := [(0, .ref 2), (1, .int a), (2, .int b), (3, .int c)]) (by decide +kernel) ⟨_, rfl, rfl⟩ (fun _ => by simp [lg_sl, j_v, Value.category]) (fun _ => rfl) ?_
  refine rn_aload_n dX1_addRule_0 rfl ?_
  refine rn_getfield dX1_addRule_1 fo_X1_31 h_chip rfl ?_
  refine rn_aload_n dX1_addRule_4 rfl ?_
  refine rn_getfield dX1_addRule_5 fo_X1_95 h_chip rfl ?_
  refine rn_topi (y := nI k) (by first | exact hk | (show sI (pI _ _ _ _) _ _ = _; simp only [pI_k, ne_eq, Nat.reduceEqDiff, not_false_eq_true, show ¬ (1 = k + 6) by omega, show ¬ (1 = k + 13) by omega, show ¬ (1 = k + 29) by omega]; exact hk)) ?_
  refine rn_aaload dX1_addRule_8 h_rules rfl (vp_in_nI (by omega) (by decide)) (refs_at rfl (by omega) (by decide)) ?_
  refine rn_astore dX1_addRule_9 (by decide) rfl ?_
  refine rn_aload dX1_addRule_11 rfl ?_
  refine rn_iload_n dX1_addRule_13 rfl ?_
  refine rn_pI (a := k + 29) dX1_addRule_14 fp_X1_98 (by omega) (cc_rule hk6) (cc_ruleI hk6 (by decide)) (by simp) ⟨rfl, rfl⟩ ⟨_, _, _, rfl, rfl⟩ ?_
  refine rn_aload dX1_addRule_17 rfl ?_
  refine rn_iload_n dX1_addRule_19 rfl ?_
  refine rn_pI (a := k + 29) dX1_addRule_20 fp_X1_101 (by omega) (cc_rule hk6) (cc_ruleI hk6 (by decide)) (by simp) ⟨rfl, rfl⟩ ⟨_, _, _, rfl, rfl⟩ ?_
  refine rn_aload dX1_addRule_23 rfl ?_
  refine rn_iload_n dX1_addRule_25 rfl ?_
  refine rn_pI (a := k + 29) dX1_addRule_26 fp_X1_104 (by omega) (cc_rule hk6) (cc_ruleI hk6 (by decide)) (by simp) ⟨rfl, rfl⟩ ⟨_, _, _, rfl, rfl⟩ ?_
  refine rn_aload_n dX1_addRule_29 rfl ?_
  refine rn_dup dX1_addRule_30 rfl ?_
  refine rn_getfield dX1_addRule_31 fo_X1_95 h_chip rfl ?_
  refine rn_topi (y := nI k) (by first | exact hk | (show sI (pI _ _ _ _) _ _ = _; simp only [pI_k, ne_eq, Nat.reduceEqDiff, not_false_eq_true, show ¬ (1 = k + 6) by omega, show ¬ (1 = k + 13) by omega, show ¬ (1 = k + 29) by omega]; exact hk)) ?_
  refine rn_dup_x1 dX1_addRule_34 rfl rfl ?_
  refine rn_iconst (v := nI 1) dX1_addRule_35 (by decide) ?_
  refine rn_iadd dX1_addRule_36 ?_
  refine rn_topi (nI_add _ _) ?_
  refine rn_pI dX1_addRule_37 fp_X1_95 (by decide) rfl rfl (by simp) ⟨rfl, rfl⟩ ⟨_, _, _, rfl, rfl⟩ ?_
  exact rn_ret dX1_addRule_40 trivial rfl
set_option maxRecDepth 20000 in
theorem c_X1_addCorner {c a b : Nat} (hk : sI S 1 5 = nI c) (hc : c < 3) (ha : a ≤ 16) (hb : b ≤ 16) : Cn l D ad tc L xs mX1_addCorner 0 0 [.ref 2, .int (nI a), .int (nI b)] (wd S E, sl) (some (.int (nI c))) (wd (sCor S c a b) E, sl) := by
  refine cn_of (lv0 := [(0, .ref 2), (1, .int (nI a)), (2, .int (nI b))]) (by decide +kernel) ⟨_, rfl, rfl⟩ (fun _ => by simp [lg_sl, j_v, Value.category]) (fun _ => rfl) ?_
  refine rn_aload_n dX1_addCorner_0 rfl ?_
  refine rn_getfield dX1_addCorner_1 fo_X1_19 h_chip rfl ?_
  refine rn_aload_n dX1_addCorner_4 rfl ?_
  refine rn_getfield dX1_addCorner_5 fo_X1_35 h_chip rfl ?_
  refine rn_topi (y := nI c) hk ?_
  refine rn_aaload dX1_addCorner_8 h_corners rfl (vp_in_nI (by omega) (by decide)) (refs_at rfl (by omega) (by decide)) ?_
  refine rn_iload_n dX1_addCorner_9 rfl ?_
  refine rn_i2dv dX1_addCorner_10 ?_
  rw [nI_toInt (by omega)]
  refine rn_dcon (n := 0) (m := 512) dX1_addCorner_11 wd_115 (by decide +kernel) ?_
  refine rn_dmulv (c := 512 * (a : Nat)) dX1_addCorner_14 (dB_of (by omega) (by omega)) (dB_of (by omega) (by omega)) (by omega) (by omega) (by omega) ?_
  refine rn_pC dX1_addCorner_15 fp_X1_68 hc (Or.inl rfl) ⟨rfl, rfl⟩ ?_
  refine rn_aload_n dX1_addCorner_18 rfl ?_
  refine rn_getfield dX1_addCorner_19 fo_X1_19 h_chip rfl ?_
  refine rn_aload_n dX1_addCorner_22 rfl ?_
  refine rn_getfield dX1_addCorner_23 fo_X1_35 h_chip rfl ?_
  refine rn_topi (y := nI c) hk ?_
  refine rn_aaload dX1_addCorner_26 h_corners rfl (vp_in_nI (by omega) (by decide)) (refs_at rfl (by omega) (by decide)) ?_
  refine rn_iload_n dX1_addCorner_27 rfl ?_
  refine rn_i2dv dX1_addCorner_28 ?_
  rw [nI_toInt (by omega)]
  refine rn_dcon (n := 0) (m := 512) dX1_addCorner_29 wd_115 (by decide +kernel) ?_
  refine rn_dmulv (c := 512 * (b : Nat)) dX1_addCorner_32 (dB_of (by omega) (by omega)) (dB_of (by omega) (by omega)) (by omega) (by omega) (by omega) ?_
  refine rn_pC dX1_addCorner_33 fp_X1_72 hc (Or.inr rfl) ⟨rfl, rfl⟩ ?_
  refine rn_aload_n dX1_addCorner_36 rfl ?_
  refine rn_dup dX1_addCorner_37 rfl ?_
  refine rn_getfield dX1_addCorner_38 fo_X1_35 h_chip rfl ?_
  refine rn_topi (y := nI c) hk ?_
  refine rn_dup_x1 dX1_addCorner_41 rfl rfl ?_
  refine rn_iconst (v := nI 1) dX1_addCorner_42 (by decide) ?_
  refine rn_iadd dX1_addCorner_43 ?_
  refine rn_topi (nI_add _ _) ?_
  refine rn_pI dX1_addCorner_44 fp_X1_35 (by decide) rfl rfl (by simp) ⟨rfl, rfl⟩ ⟨_, _, _, rfl, rfl⟩ ?_
  exact rn_ret dX1_addCorner_47 trivial rfl
set_option maxRecDepth 20000 in
theorem c_X9_clock {v : Nat} {a b c d : Int32} (ho : sI S 0 2 = 0) (hk : sI S 1 4 = nI v) (hv : v < 4) (h1 : 4 ≤ a ∧ a ≤ 40) (h2 : 0 ≤ b ∧ b ≤ 40) (h3 : 0 ≤ c ∧ c ≤ 20) (h4 : 0 ≤ d ∧ d ≤ 1) : Cn l D ad tc L xs mX9_clock 1 26 [.ref 1, .int a, .int b, .int c, .int d] (wd S E, sl) (some (.int (nI v))) (wd (sClk (sForget S) v a b c d (nI v)) E, sl) := by
  refine cn_of (lv0 := [(0, .ref 1), (1, .int a), (2, .int b), (3, .int c), (4, .int d)]) (by decide +kernel) ⟨_, rfl, rfl⟩ (fun _ => by simp [lg_sl, j_v, Value.category]) (fun _ => rfl) ?_
  have hkF : sI (sForget S) 1 4 = nI v := ((TS_forget S).1 1 4 (by decide)).trans hk
  refine rn_aload_n dX9_clock_0 rfl ?_
  refine rn_aload_n dX9_clock_1 rfl ?_
  refine rn_getfield dX9_clock_2 fo_X9_12 h_SH rfl ?_
  refine rn_getfield dX9_clock_5 fo_X9_25 h_chip rfl ?_
  refine rn_topi (y := nI v) (by first | exact hk | exact hkF) ?_
  refine rn_iconst (v := 4) dX9_clock_8 rfl ?_
  refine rn_icmp_ge (tgt := 16) dX9_clock_9 rfl (fun q1 => absurd q1 (by exact Int32.not_le.mpr (by rw [show (4 : Int32) = nI 4 by decide]; exact nI_lt hv (by omega)))) (fun _ => ?_)
  refine rn_iconst (v := 1) dX9_clock_12 rfl ?_
  refine rn_goto (tgt := 17) dX9_clock_13 rfl ?_
  refine rn_callV dX9_clock_17 cv_X9_29 (c_X9_mustBeOpen ho (by decide)) rfl h_SH rfl rfl (by decide) (by decide) rfl (Nat.le_of_ble_eq_true rfl) ?_
  refine rn_iload_n dX9_clock_20 rfl ?_
  refine rn_iconst (v := 4) dX9_clock_21 rfl ?_
  refine rn_bipush (v := 40) dX9_clock_22 rfl ?_
  refine rn_callS dX9_clock_24 cs_X9_33 c_X9_isIn rfl (by decide) (by decide) rfl (Nat.le_of_ble_eq_true rfl) ?_
  refine rn_topi (is_b (decide_eq_true h1)) ?_
  refine rn_if_eq (tgt := 64) dX9_clock_27 rfl (fun q2 => absurd q2 (by decide)) (fun _ => ?_)
  refine rn_iload_n dX9_clock_30 rfl ?_
  refine rn_iconst (v := 0) dX9_clock_31 rfl ?_
  refine rn_bipush (v := 40) dX9_clock_32 rfl ?_
  refine rn_callS dX9_clock_34 cs_X9_33 c_X9_isIn rfl (by decide) (by decide) rfl (Nat.le_of_ble_eq_true rfl) ?_
  refine rn_topi (is_b (decide_eq_true h2)) ?_
  refine rn_if_eq (tgt := 64) dX9_clock_37 rfl (fun q3 => absurd q3 (by decide)) (fun _ => ?_)
  refine rn_iload_n dX9_clock_40 rfl ?_
  refine rn_iconst (v := 0) dX9_clock_41 rfl ?_
  refine rn_bipush (v := 20) dX9_clock_42 rfl ?_
  refine rn_callS dX9_clock_44 cs_X9_33 c_X9_isIn rfl (by decide) (by decide) rfl (Nat.le_of_ble_eq_true rfl) ?_
  refine rn_topi (is_b (decide_eq_true h3)) ?_
  refine rn_if_eq (tgt := 64) dX9_clock_47 rfl (fun q4 => absurd q4 (by decide)) (fun _ => ?_)
  refine rn_iload dX9_clock_50 rfl ?_
  refine rn_iconst (v := 0) dX9_clock_52 rfl ?_
  refine rn_iconst (v := 1) dX9_clock_53 rfl ?_
  refine rn_callS dX9_clock_54 cs_X9_33 c_X9_isIn rfl (by decide) (by decide) rfl (Nat.le_of_ble_eq_true rfl) ?_
  refine rn_topi (is_b (decide_eq_true h4)) ?_
  refine rn_if_eq (tgt := 64) dX9_clock_57 rfl (fun q5 => absurd q5 (by decide)) (fun _ => ?_)
  refine rn_iconst (v := 1) dX9_clock_60 rfl ?_
  refine rn_goto (tgt := 65) dX9_clock_61 rfl ?_
  refine rn_callS dX9_clock_65 cs_X9_37 (c_X9_mustFit (by decide)) rfl (by decide) (by decide) rfl (Nat.le_of_ble_eq_true rfl) ?_
  refine rn_aload_n dX9_clock_68 rfl ?_
  refine rn_getfield dX9_clock_69 fo_X9_21 h_SH rfl ?_
  refine rn_callV dX9_clock_72 cv_X9_40 c_X0_forget rfl h_an rfl rfl (by decide) (by decide) rfl (Nat.le_of_ble_eq_true rfl) ?_
  refine rn_aload_n dX9_clock_75 rfl ?_
  refine rn_getfield dX9_clock_76 fo_X9_12 h_SH rfl ?_
  refine rn_iload_n dX9_clock_79 rfl ?_
  refine rn_iload_n dX9_clock_80 rfl ?_
  refine rn_iload_n dX9_clock_81 rfl ?_
  refine rn_iload dX9_clock_82 rfl ?_
  refine rn_aload_n dX9_clock_84 rfl ?_
  refine rn_getfield dX9_clock_85 fo_X9_12 h_SH rfl ?_
  refine rn_getfield dX9_clock_88 fo_X9_25 h_chip rfl ?_
  refine rn_topi (y := nI v) (by first | exact hk | exact hkF) ?_
  refine rn_callV dX9_clock_91 cv_X9_43 (c_X1_addClock hkF hv) rfl h_chip rfl rfl (by decide) (by decide) rfl (Nat.le_of_ble_eq_true rfl) ?_
  exact rn_ret dX9_clock_94 trivial rfl
set_option maxRecDepth 20000 in
theorem c_X9_corner {c a b : Nat} (ho : sI S 0 2 = 0) (hk : sI S 1 5 = nI c) (hc : c < 3) (ha : a ≤ 16) (hb : b ≤ 16) (h1 : 8 ≤ nI a ∧ nI a ≤ 16) (h2 : 1 ≤ nI b ∧ nI b ≤ 8) : Cn l D ad tc L xs mX9_corner 1 22 [.ref 1, .int (nI a), .int (nI b)] (wd S E, sl) (some (.int (nI c))) (wd (sCor (sForget S) c a b) E, sl) := by
  refine cn_of (lv0 := [(0, .ref 1), (1, .int (nI a)), (2, .int (nI b))]) (by decide +kernel) ⟨_, rfl, rfl⟩ (fun _ => by simp [lg_sl, j_v, Value.category]) (fun _ => rfl) ?_
  have hkF : sI (sForget S) 1 5 = nI c := ((TS_forget S).1 1 5 (by decide)).trans hk
  refine rn_aload_n dX9_corner_0 rfl ?_
  refine rn_aload_n dX9_corner_1 rfl ?_
  refine rn_getfield dX9_corner_2 fo_X9_12 h_SH rfl ?_
  refine rn_getfield dX9_corner_5 fo_X9_75 h_chip rfl ?_
  refine rn_topi (y := nI c) (by first | exact hk | exact hkF) ?_
  refine rn_iconst (v := 3) dX9_corner_8 rfl ?_
  refine rn_icmp_ge (tgt := 16) dX9_corner_9 rfl (fun q1 => absurd q1 (by exact Int32.not_le.mpr (by rw [show (3 : Int32) = nI 3 by decide]; exact nI_lt hc (by omega)))) (fun _ => ?_)
  refine rn_iconst (v := 1) dX9_corner_12 rfl ?_
  refine rn_goto (tgt := 17) dX9_corner_13 rfl ?_
  refine rn_callV dX9_corner_17 cv_X9_29 (c_X9_mustBeOpen ho (by decide)) rfl h_SH rfl rfl (by decide) (by decide) rfl (Nat.le_of_ble_eq_true rfl) ?_
  refine rn_iload_n dX9_corner_20 rfl ?_
  refine rn_bipush (v := 8) dX9_corner_21 rfl ?_
  refine rn_bipush (v := 16) dX9_corner_23 rfl ?_
  refine rn_callS dX9_corner_25 cs_X9_33 c_X9_isIn rfl (by decide) (by decide) rfl (Nat.le_of_ble_eq_true rfl) ?_
  refine rn_topi (is_b (decide_eq_true h1)) ?_
  refine rn_if_eq (tgt := 45) dX9_corner_28 rfl (fun q2 => absurd q2 (by decide)) (fun _ => ?_)
  refine rn_iload_n dX9_corner_31 rfl ?_
  refine rn_iconst (v := 1) dX9_corner_32 rfl ?_
  refine rn_bipush (v := 8) dX9_corner_33 rfl ?_
  refine rn_callS dX9_corner_35 cs_X9_33 c_X9_isIn rfl (by decide) (by decide) rfl (Nat.le_of_ble_eq_true rfl) ?_
  refine rn_topi (is_b (decide_eq_true h2)) ?_
  refine rn_if_eq (tgt := 45) dX9_corner_38 rfl (fun q3 => absurd q3 (by decide)) (fun _ => ?_)
  refine rn_iconst (v := 1) dX9_corner_41 rfl ?_
  refine rn_goto (tgt := 46) dX9_corner_42 rfl ?_
  refine rn_callS dX9_corner_46 cs_X9_37 (c_X9_mustFit (by decide)) rfl (by decide) (by decide) rfl (Nat.le_of_ble_eq_true rfl) ?_
  refine rn_aload_n dX9_corner_49 rfl ?_
  refine rn_getfield dX9_corner_50 fo_X9_21 h_SH rfl ?_
  refine rn_callV dX9_corner_53 cv_X9_40 c_X0_forget rfl h_an rfl rfl (by decide) (by decide) rfl (Nat.le_of_ble_eq_true rfl) ?_
  refine rn_aload_n dX9_corner_56 rfl ?_
  refine rn_getfield dX9_corner_57 fo_X9_12 h_SH rfl ?_
  refine rn_iload_n dX9_corner_60 rfl ?_
  refine rn_iload_n dX9_corner_61 rfl ?_
  refine rn_callV dX9_corner_62 cv_X9_78 (c_X1_addCorner hkF hc ha hb) rfl h_chip rfl rfl (by decide) (by decide) rfl (Nat.le_of_ble_eq_true rfl) ?_
  exact rn_ret dX9_corner_65 trivial rfl
end X2
