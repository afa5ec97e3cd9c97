/-! the reference on a fresh object -/
def ia (n : Nat) (f : Nat → Int32) : j_C := .inl (0, n, .inl f)
def cAL (m : Int32) (x : Nat) (s : Int32) : j_C := .inr (12, [.int m, .ref x, .int s])
section R3
variable {l : Launch} {D : va_G} {ad : Nat → Nat} {tc : Nat → ClassId} {L : Nat} {xs : Nat → Int32} {M : j_M} {d lo pc : Nat} {lv : j_L} {st : List Value} {h h' : j_H} {r : Option Value} {G U : List j_C} {sl u : Nat}
set_option maxRecDepth 20000 in
theorem c_X11_isIn {v a b : Int32} : Cn l D ad tc L xs mX11_isIn 0 0 [.int v, .int a, .int b] h (some (.int (bI (decide (a ≤ v ∧ v ≤ b))))) h := by
  refine cn_of (lv0 := [(0, .int v), (1, .int a), (2, .int b)]) (by decide +kernel) ⟨_, rfl, bI_nar _⟩ (fun _ => by simp [lg_sl, j_v, Value.category]) (fun _ => rfl) ?_
  refine rn_iload_n dX11_isIn_0 rfl ?_
  refine rn_iload_n dX11_isIn_1 rfl ?_
  refine rn_icmp_lt (tgt := 14) dX11_isIn_2 rfl (fun q1 => ?_) (fun q1 => ?_)
  · refine rn_iconst (v := 0) dX11_isIn_14 rfl ?_
    exact rn_ret dX11_isIn_15 trivial (by simp_all [bI, Int32.le_iff_toInt_le, Int32.lt_iff_toInt_lt] <;> omega)
  · refine rn_iload_n dX11_isIn_5 rfl ?_
    refine rn_iload_n dX11_isIn_6 rfl ?_
    refine rn_icmp_gt (tgt := 14) dX11_isIn_7 rfl (fun q2 => ?_) (fun q2 => ?_)
    · refine rn_iconst (v := 0) dX11_isIn_14 rfl ?_
      exact rn_ret dX11_isIn_15 trivial (by simp_all [bI, Int32.le_iff_toInt_le, Int32.lt_iff_toInt_lt] <;> omega)
    · refine rn_iconst (v := 1) dX11_isIn_10 rfl ?_
      refine rn_goto (tgt := 15) dX11_isIn_11 rfl ?_
      exact rn_ret dX11_isIn_15 trivial (by simp_all [bI, Int32.le_iff_toInt_le, Int32.lt_iff_toInt_lt] <;> omega)
set_option maxRecDepth 20000 in
theorem c_X11_add {x y : Int64} : Cn l D ad tc L xs mX11_add 0 0 [.long x, .long y] h (some (.long (x * 31 + y))) h := by
  refine cn_of (lv0 := [(0, .long x), (2, .long y)]) (by decide +kernel) rfl (fun _ => by simp [lg_sl, j_v, Value.category]) (fun _ => rfl) ?_
  refine rn_lload_n dX11_add_0 rfl ?_
  refine rn_ldc2 dX11_add_1 wd_627 ?_
  refine rn_lmul dX11_add_4 ?_
  refine rn_lload_n dX11_add_5 rfl ?_
  refine rn_ladd dX11_add_6 ?_
  exact rn_ret dX11_add_7 trivial rfl
set_option maxRecDepth 20000 in
theorem c_X11_one_0  : Cn l D ad tc L xs mX11_one 0 0 [.int 0] h (some (.int 0)) h := by
  refine cn_of (lv0 := [(0, .int 0)]) (by decide +kernel) ⟨_, rfl, rfl⟩ (fun _ => by simp [lg_sl, j_v, Value.category]) (fun _ => rfl) ?_
  refine rn_iload_n dX11_one_0 rfl ?_
  refine rn_if_eq (tgt := 8) dX11_one_1 rfl (fun _ => ?_) (fun q => absurd (by decide) q)
  refine rn_iconst (v := 0) dX11_one_8 rfl ?_
  exact rn_ret dX11_one_9 trivial rfl
theorem c_X11_thrown {i : Nat} {t : Int32} {fs : List Value} (he : h.1[i]? = some (.inr (11, .int t :: fs))) : Cn l D ad tc L xs mX11_thrown 0 0 [.ref (i + 1)] h (some (.int t)) h := by
  refine cn_of (lv0 := [(0, .ref (i + 1))]) (by decide +kernel) ⟨_, rfl, rfl⟩ (fun _ => by simp [lg_sl, j_v, Value.category]) (fun _ => rfl) ?_
  refine rn_aload_n dX11_thrown_0 rfl ?_
  refine rn_getfield dX11_thrown_1 fo_X11_29 he rfl ?_
  exact rn_ret dX11_thrown_4 trivial rfl
set_option maxRecDepth 20000 in
theorem c_X11_refuse_0 {w : Int32} (hG : G.length = 84) : Cn l D ad tc L xs mX11_refuse 0 0 [.ref 85, .int 0, .int w] (G ++ (mdl (j_a0 D) 0 0 0 ++ U), sl) (some (.int 0)) (G ++ (mdl (j_a0 D) 0 0 0 ++ U), sl) := by
  refine cn_of (lv0 := [(0, .ref 85), (1, .int 0), (2, .int w)]) (by decide +kernel) ⟨_, rfl, rfl⟩ (fun _ => by simp [lg_sl, j_v, Value.category]) (fun _ => rfl) ?_
  refine rn_iload_n dX11_refuse_0 rfl ?_
  refine rn_if_eq (tgt := 16) dX11_refuse_1 rfl (fun _ => ?_) (fun q => absurd (by decide) q)
  refine rn_aload_n dX11_refuse_16 rfl ?_
  refine rnT_get (i := 0) hG dX11_refuse_17 fo_X11_29 rfl rfl ?_
  refine rn_if_le (tgt := 27) dX11_refuse_20 rfl (fun _ => ?_) (fun q => absurd (by decide) q)
  refine rn_iconst (v := 0) dX11_refuse_27 rfl ?_
  exact rn_ret dX11_refuse_28 trivial rfl
set_option maxRecDepth 20000 in
theorem c_X11_refuse_1 {w : Int32} (hG : G.length = 84) (hw : ¬ w ≤ 0) : Cn l D ad tc L xs mX11_refuse 0 0 [.ref 85, .int 1, .int w] (G ++ (mdl (j_a0 D) 0 0 0 ++ U), sl) (some (.int 1)) (G ++ (mdl (j_a0 D) w 0 0 ++ U), sl) := by
  refine cn_of (lv0 := [(0, .ref 85), (1, .int 1), (2, .int w)]) (by decide +kernel) ⟨_, rfl, rfl⟩ (fun _ => by simp [lg_sl, j_v, Value.category]) (fun _ => rfl) ?_
  refine rn_iload_n dX11_refuse_0 rfl ?_
  refine rn_if_eq (tgt := 16) dX11_refuse_1 rfl (fun q => absurd q (by decide)) (fun _ => ?_)
  refine rn_aload_n dX11_refuse_4 rfl ?_
  refine rnT_get (i := 0) hG dX11_refuse_5 fo_X11_29 rfl rfl ?_
  refine rn_if_ne (tgt := 16) dX11_refuse_8 rfl (fun q => absurd q (by decide)) (fun _ => ?_)
  refine rn_aload_n dX11_refuse_11 rfl ?_
  refine rn_iload_n dX11_refuse_12 rfl ?_
  refine rnT_put (i := 0) hG dX11_refuse_13 fp_X11_29 rfl (by simp) (fun _ => ⟨rfl, rfl⟩) (Or.inr ⟨_, _, _, rfl, rfl⟩) ?_
  refine rn_h (h2 := (G ++ (mdl (j_a0 D) w 0 0 ++ U), sl)) rfl ?_
  refine rn_aload_n dX11_refuse_16 rfl ?_
  refine rnT_get (i := 0) hG dX11_refuse_17 fo_X11_29 rfl rfl ?_
  refine rn_if_le (tgt := 27) dX11_refuse_20 rfl (fun q => absurd q (by exact hw)) (fun _ => ?_)
  refine rn_iconst (v := 1) dX11_refuse_23 rfl ?_
  refine rn_goto (tgt := 28) dX11_refuse_24 rfl ?_
  exact rn_ret dX11_refuse_28 trivial rfl
set_option maxRecDepth 20000 in
theorem c_X11_start_0 {t w : Int32} (hG : G.length = 84) : Cn l D ad tc L xs mX11_start 1 60 [.ref 85, .int 0, .int w] (G ++ (mdl (j_a0 D) t 0 0 ++ U), sl) (some (.int 0)) (G ++ (mdl (j_a0 D) 0 0 0 ++ U), sl) := by
  refine cn_of (lv0 := [(0, .ref 85), (1, .int 0), (2, .int w)]) (by decide +kernel) ⟨_, rfl, rfl⟩ (fun _ => by simp [lg_sl, j_v, Value.category]) (fun _ => rfl) ?_
  refine rn_aload_n dX11_start_0 rfl ?_
  refine rn_iconst (v := 0) dX11_start_1 rfl ?_
  refine rnT_put (i := 0) hG dX11_start_2 fp_X11_29 rfl (by simp) (fun _ => ⟨rfl, rfl⟩) (Or.inr ⟨_, _, _, rfl, rfl⟩) ?_
  refine rn_h (h2 := (G ++ (mdl (j_a0 D) 0 0 0 ++ U), sl)) rfl ?_
  refine rn_aload_n dX11_start_5 rfl ?_
  refine rn_iload_n dX11_start_6 rfl ?_
  refine rn_iload_n dX11_start_7 rfl ?_
  refine rn_callV dX11_start_8 cv_X11_33 (c_X11_refuse_0 hG) rfl (gt_at (i := 0) hG rfl) rfl rfl (by decide) (by decide) rfl (Nat.le_of_ble_eq_true rfl) ?_
  exact rn_ret dX11_start_11 trivial rfl
set_option maxRecDepth 20000 in
theorem c_X11_start_1 {t w : Int32} (hG : G.length = 84) (hw : ¬ w ≤ 0) : Cn l D ad tc L xs mX11_start 1 60 [.ref 85, .int 1, .int w] (G ++ (mdl (j_a0 D) t 0 0 ++ U), sl) (some (.int 1)) (G ++ (mdl (j_a0 D) w 0 0 ++ U), sl) := by
  refine cn_of (lv0 := [(0, .ref 85), (1, .int 1), (2, .int w)]) (by decide +kernel) ⟨_, rfl, rfl⟩ (fun _ => by simp [lg_sl, j_v, Value.category]) (fun _ => rfl) ?_
  refine rn_aload_n dX11_start_0 rfl ?_
  refine rn_iconst (v := 0) dX11_start_1 rfl ?_
  refine rnT_put (i := 0) hG dX11_start_2 fp_X11_29 rfl (by simp) (fun _ => ⟨rfl, rfl⟩) (Or.inr ⟨_, _, _, rfl, rfl⟩) ?_
  refine rn_h (h2 := (G ++ (mdl (j_a0 D) 0 0 0 ++ U), sl)) rfl ?_
  refine rn_aload_n dX11_start_5 rfl ?_
  refine rn_iload_n dX11_start_6 rfl ?_
  refine rn_iload_n dX11_start_7 rfl ?_
  refine rn_callV dX11_start_8 cv_X11_33 (c_X11_refuse_1 hG hw) rfl (gt_at (i := 0) hG rfl) rfl rfl (by decide) (by decide) rfl (Nat.le_of_ble_eq_true rfl) ?_
  exact rn_ret dX11_start_11 trivial rfl
theorem no_below {v : Int32} : bI (decide (0 ≤ v ∧ v ≤ (-1 : Int32))) = 0 := by
  rw [bI_0, decide_eq_false_iff_not]
  exact fun z => absurd (Int32.le_trans z.1 z.2) (by decide)
theorem no_zero {v : Int32} (hv : ¬ v = 0) : bI (decide (0 ≤ v ∧ v ≤ (0 : Int32))) = 0 := by
  rw [bI_0, decide_eq_false_iff_not]
  intro z
  have h1 := Int32.le_iff_toInt_le.mp z.1
  have h2 := Int32.le_iff_toInt_le.mp z.2
  have e0 : (0 : Int32).toInt = 0 := rfl
  exact hv (Int32.toInt_inj.mp (by omega))
set_option maxRecDepth 20000 in
theorem c_X11_isNoClock {a t : Int32} (hG : G.length = 84) : Cn l D ad tc L xs mX11_isNoClock 1 60 [.ref 85, .int a] (G ++ (mdl (j_a0 D) t 0 0 ++ U), sl) (some (.int 1)) (G ++ (mdl (j_a0 D) t 0 0 ++ U), sl) := by
  refine cn_of (lv0 := [(0, .ref 85), (1, .int a)]) (by decide +kernel) ⟨_, rfl, rfl⟩ (fun _ => by simp [lg_sl, j_v, Value.category]) (fun _ => rfl) ?_
  refine rn_iload_n dX11_isNoClock_0 rfl ?_
  refine rn_iconst (v := 0) dX11_isNoClock_1 rfl ?_
  refine rn_aload_n dX11_isNoClock_2 rfl ?_
  refine rnT_get (i := 0) hG dX11_isNoClock_3 fo_X11_10 rfl rfl ?_
  refine rn_callV dX11_isNoClock_6 cv_X11_37 (c_AL_size (i := 85) (gt_at (i := 1) hG rfl)) rfl (gt_at (i := 1) hG rfl) rfl rfl (by decide) (by decide) rfl (Nat.le_of_ble_eq_true rfl) ?_
  refine rn_iconst (v := 1) dX11_isNoClock_9 rfl ?_
  refine rn_isub dX11_isNoClock_10 ?_
  refine rn_topi (y := (-1)) (by decide) ?_
  refine rn_callS dX11_isNoClock_11 cs_X11_41 c_X11_isIn rfl (by decide) (by decide) rfl (Nat.le_of_ble_eq_true rfl) ?_
  refine rn_topi (y := 0) no_below ?_
  refine rn_if_ne (tgt := 21) dX11_isNoClock_14 rfl (fun q => absurd q (by decide)) (fun _ => ?_)
  refine rn_iconst (v := 1) dX11_isNoClock_17 rfl ?_
  refine rn_goto (tgt := 22) dX11_isNoClock_18 rfl ?_
  exact rn_ret dX11_isNoClock_22 trivial rfl
set_option maxRecDepth 20000 in
theorem c_X11_isNoNode {a t : Int32} (hG : G.length = 84) : Cn l D ad tc L xs mX11_isNoNode 1 60 [.ref 85, .int a] (G ++ (mdl (j_a0 D) t 0 0 ++ U), sl) (some (.int 1)) (G ++ (mdl (j_a0 D) t 0 0 ++ U), sl) := by
  refine cn_of (lv0 := [(0, .ref 85), (1, .int a)]) (by decide +kernel) ⟨_, rfl, rfl⟩ (fun _ => by simp [lg_sl, j_v, Value.category]) (fun _ => rfl) ?_
  refine rn_iload_n dX11_isNoNode_0 rfl ?_
  refine rn_iconst (v := 0) dX11_isNoNode_1 rfl ?_
  refine rn_aload_n dX11_isNoNode_2 rfl ?_
  refine rnT_get (i := 0) hG dX11_isNoNode_3 fo_X11_19 rfl rfl ?_
  refine rn_callV dX11_isNoNode_6 cv_X11_37 (c_AL_size (i := 87) (gt_at (i := 3) hG rfl)) rfl (gt_at (i := 3) hG rfl) rfl rfl (by decide) (by decide) rfl (Nat.le_of_ble_eq_true rfl) ?_
  refine rn_iconst (v := 1) dX11_isNoNode_9 rfl ?_
  refine rn_isub dX11_isNoNode_10 ?_
  refine rn_topi (y := (-1)) (by decide) ?_
  refine rn_callS dX11_isNoNode_11 cs_X11_41 c_X11_isIn rfl (by decide) (by decide) rfl (Nat.le_of_ble_eq_true rfl) ?_
  refine rn_topi (y := 0) no_below ?_
  refine rn_if_ne (tgt := 21) dX11_isNoNode_14 rfl (fun q => absurd q (by decide)) (fun _ => ?_)
  refine rn_iconst (v := 1) dX11_isNoNode_17 rfl ?_
  refine rn_goto (tgt := 22) dX11_isNoNode_18 rfl ?_
  exact rn_ret dX11_isNoNode_22 trivial rfl
set_option maxRecDepth 20000 in
theorem c_X11_isNoCorner_1 {a t : Int32} (hG : G.length = 84) (ha : ¬ a = 0) : Cn l D ad tc L xs mX11_isNoCorner 1 60 [.ref 85, .int a] (G ++ (mdl (j_a0 D) t 0 0 ++ U), sl) (some (.int 1)) (G ++ (mdl (j_a0 D) t 0 0 ++ U), sl) := by
  refine cn_of (lv0 := [(0, .ref 85), (1, .int a)]) (by decide +kernel) ⟨_, rfl, rfl⟩ (fun _ => by simp [lg_sl, j_v, Value.category]) (fun _ => rfl) ?_
  refine rn_iload_n dX11_isNoCorner_0 rfl ?_
  refine rn_iconst (v := 0) dX11_isNoCorner_1 rfl ?_
  refine rn_aload_n dX11_isNoCorner_2 rfl ?_
  refine rnT_get (i := 0) hG dX11_isNoCorner_3 fo_X11_16 rfl rfl ?_
  refine rn_callV dX11_isNoCorner_6 cv_X11_37 (c_AL_size (i := 86) (gt_at (i := 2) hG rfl)) rfl (gt_at (i := 2) hG rfl) rfl rfl (by decide) (by decide) rfl (Nat.le_of_ble_eq_true rfl) ?_
  refine rn_iconst (v := 1) dX11_isNoCorner_9 rfl ?_
  refine rn_isub dX11_isNoCorner_10 ?_
  refine rn_topi (y := 0) (by decide) ?_
  refine rn_callS dX11_isNoCorner_11 cs_X11_41 c_X11_isIn rfl (by decide) (by decide) rfl (Nat.le_of_ble_eq_true rfl) ?_
  refine rn_topi (y := 0) (no_zero ha) ?_
  refine rn_if_ne (tgt := 21) dX11_isNoCorner_14 rfl (fun q => absurd q (by decide)) (fun _ => ?_)
  refine rn_iconst (v := 1) dX11_isNoCorner_17 rfl ?_
  refine rn_goto (tgt := 22) dX11_isNoCorner_18 rfl ?_
  exact rn_ret dX11_isNoCorner_22 trivial rfl
set_option maxRecDepth 20000 in
theorem c_X11_isNoCorner_0 {t : Int32} (hG : G.length = 84) : Cn l D ad tc L xs mX11_isNoCorner 1 60 [.ref 85, .int 0] (G ++ (mdl (j_a0 D) t 0 0 ++ U), sl) (some (.int 0)) (G ++ (mdl (j_a0 D) t 0 0 ++ U), sl) := by
  refine cn_of (lv0 := [(0, .ref 85), (1, .int 0)]) (by decide +kernel) ⟨_, rfl, rfl⟩ (fun _ => by simp [lg_sl, j_v, Value.category]) (fun _ => rfl) ?_
  refine rn_iload_n dX11_isNoCorner_0 rfl ?_
  refine rn_iconst (v := 0) dX11_isNoCorner_1 rfl ?_
  refine rn_aload_n dX11_isNoCorner_2 rfl ?_
  refine rnT_get (i := 0) hG dX11_isNoCorner_3 fo_X11_16 rfl rfl ?_
  refine rn_callV dX11_isNoCorner_6 cv_X11_37 (c_AL_size (i := 86) (gt_at (i := 2) hG rfl)) rfl (gt_at (i := 2) hG rfl) rfl rfl (by decide) (by decide) rfl (Nat.le_of_ble_eq_true rfl) ?_
  refine rn_iconst (v := 1) dX11_isNoCorner_9 rfl ?_
  refine rn_isub dX11_isNoCorner_10 ?_
  refine rn_topi (y := 0) (by decide) ?_
  refine rn_callS dX11_isNoCorner_11 cs_X11_41 c_X11_isIn rfl (by decide) (by decide) rfl (Nat.le_of_ble_eq_true rfl) ?_
  refine rn_topi (y := 1) (by decide) ?_
  refine rn_if_ne (tgt := 21) dX11_isNoCorner_14 rfl (fun _ => ?_) (fun q => absurd q (by decide))
  refine rn_iconst (v := 0) dX11_isNoCorner_21 rfl ?_
  exact rn_ret dX11_isNoCorner_22 trivial rfl
set_option maxRecDepth 20000 in
theorem c_X11_isNoPair {a b t : Int32} (hG : G.length = 84) : Cn l D ad tc L xs mX11_isNoPair 2 120 [.ref 85, .int a, .int b] (G ++ (mdl (j_a0 D) t 0 0 ++ U), sl) (some (.int 1)) (G ++ (mdl (j_a0 D) t 0 0 ++ U), sl) := by
  refine cn_of (lv0 := [(0, .ref 85), (1, .int a), (2, .int b)]) (by decide +kernel) ⟨_, rfl, rfl⟩ (fun _ => by simp [lg_sl, j_v, Value.category]) (fun _ => rfl) ?_
  refine rn_aload_n dX11_isNoPair_0 rfl ?_
  refine rn_iload_n dX11_isNoPair_1 rfl ?_
  refine rn_callV dX11_isNoPair_2 cv_X11_66 (c_X11_isNoNode hG) rfl (gt_at (i := 0) hG rfl) rfl rfl (by decide) (by decide) rfl (Nat.le_of_ble_eq_true rfl) ?_
  refine rn_if_ne (tgt := 16) dX11_isNoPair_5 rfl (fun _ => ?_) (fun q => absurd q (by decide))
  refine rn_iconst (v := 1) dX11_isNoPair_16 rfl ?_
  refine rn_goto (tgt := 21) dX11_isNoPair_17 rfl ?_
  exact rn_ret dX11_isNoPair_21 trivial rfl
set_option maxRecDepth 20000 in
theorem c_X11_clock_ok {a b c d t : Int32} (hG : G.length = 84) (hU : U.length = u) (h1 : 4 ≤ a ∧ a ≤ 40) (h2 : 0 ≤ b ∧ b ≤ 40) (h3 : 0 ≤ c ∧ c ≤ 20) (h4 : 0 ≤ d ∧ d ≤ 1) : Cn l D ad tc L xs mX11_clock 6 500 [.ref 85, .int a, .int b, .int c, .int d] (G ++ (mdl (j_a0 D) t 0 0 ++ U), sl) (some (.int 0)) (G ++ (((mdl (j_a0 D) 0 0 0 ++ U) ++ [ia 5 (upd (upd (upd (upd (upd (fun _ => 0) 0 a) 1 b) 2 c) 3 d) 4 0)]).set 1 (cAL 1 (84 + (7 + u + 1) + 1) 1) ++ [oAL (va_up (fun _ => none) 0 (some (84 + (7 + u) + 1)))]), sl + 5 + 10) := by
  refine cn_of (lv0 := [(0, .ref 85), (1, .int a), (2, .int b), (3, .int c), (4, .int d)]) (by decide +kernel) ⟨_, rfl, rfl⟩ (fun _ => by simp [lg_sl, j_v, Value.category]) (fun _ => rfl) ?_
  refine rn_aload_n dX11_clock_0 rfl ?_
  refine rn_aload_n dX11_clock_1 rfl ?_
  refine rnT_get (i := 0) hG dX11_clock_2 fo_X11_55 rfl rfl ?_
  refine rn_if_ne (tgt := 19) dX11_clock_5 rfl (fun q => absurd q (by decide)) (fun _ => ?_)
  refine rn_aload_n dX11_clock_8 rfl ?_
  refine rnT_get (i := 0) hG dX11_clock_9 fo_X11_10 rfl rfl ?_
  refine rn_callV dX11_clock_12 cv_X11_37 (c_AL_size (i := 85) (gt_at (i := 1) hG rfl)) rfl (gt_at (i := 1) hG rfl) rfl rfl (by decide) (by decide) rfl (Nat.le_of_ble_eq_true rfl) ?_
  refine rn_iconst (v := 4) dX11_clock_15 rfl ?_
  refine rn_icmp_ne (tgt := 23) dX11_clock_16 rfl (fun _ => ?_) (fun q => absurd q (by decide))
  refine rn_iconst (v := 0) dX11_clock_23 rfl ?_
  refine rn_iconst (v := 1) dX11_clock_24 rfl ?_
  refine rn_callV dX11_clock_25 cv_X11_59 (c_X11_start_0 hG) rfl (gt_at (i := 0) hG rfl) rfl rfl (by decide) (by decide) rfl (Nat.le_of_ble_eq_true rfl) ?_
  refine rn_if_ne (tgt := 84) dX11_clock_28 rfl (fun q => absurd q (by decide)) (fun _ => ?_)
  refine rn_aload_n dX11_clock_31 rfl ?_
  refine rn_iload_n dX11_clock_32 rfl ?_
  refine rn_iconst (v := 4) dX11_clock_33 rfl ?_
  refine rn_bipush (v := 40) dX11_clock_34 rfl ?_
  refine rn_callS dX11_clock_36 cs_X11_41 c_X11_isIn rfl (by decide) (by decide) rfl (Nat.le_of_ble_eq_true rfl) ?_
  refine rn_topi (y := 1) (is_b (decide_eq_true h1)) ?_
  refine rn_if_eq (tgt := 72) dX11_clock_39 rfl (fun q => absurd q (by decide)) (fun _ => ?_)
  refine rn_iload_n dX11_clock_42 rfl ?_
  refine rn_iconst (v := 0) dX11_clock_43 rfl ?_
  refine rn_bipush (v := 40) dX11_clock_44 rfl ?_
  refine rn_callS dX11_clock_46 cs_X11_41 c_X11_isIn rfl (by decide) (by decide) rfl (Nat.le_of_ble_eq_true rfl) ?_
  refine rn_topi (y := 1) (is_b (decide_eq_true h2)) ?_
  refine rn_if_eq (tgt := 72) dX11_clock_49 rfl (fun q => absurd q (by decide)) (fun _ => ?_)
  refine rn_iload_n dX11_clock_52 rfl ?_
  refine rn_iconst (v := 0) dX11_clock_53 rfl ?_
  refine rn_bipush (v := 20) dX11_clock_54 rfl ?_
  refine rn_callS dX11_clock_56 cs_X11_41 c_X11_isIn rfl (by decide) (by decide) rfl (Nat.le_of_ble_eq_true rfl) ?_
  refine rn_topi (y := 1) (is_b (decide_eq_true h3)) ?_
  refine rn_if_eq (tgt := 72) dX11_clock_59 rfl (fun q => absurd q (by decide)) (fun _ => ?_)
  refine rn_iload dX11_clock_62 rfl ?_
  refine rn_iconst (v := 0) dX11_clock_64 rfl ?_
  refine rn_iconst (v := 1) dX11_clock_65 rfl ?_
  refine rn_callS dX11_clock_66 cs_X11_41 c_X11_isIn rfl (by decide) (by decide) rfl (Nat.le_of_ble_eq_true rfl) ?_
  refine rn_topi (y := 1) (is_b (decide_eq_true h4)) ?_
  refine rn_if_ne (tgt := 76) dX11_clock_69 rfl (fun _ => ?_) (fun q => absurd q (by decide))
  refine rn_iconst (v := 0) dX11_clock_76 rfl ?_
  refine rn_iconst (v := 2) dX11_clock_77 rfl ?_
  refine rn_callV dX11_clock_78 cv_X11_33 (c_X11_refuse_0 hG) rfl (gt_at (i := 0) hG rfl) rfl rfl (by decide) (by decide) rfl (Nat.le_of_ble_eq_true rfl) ?_
  refine rn_if_eq (tgt := 86) dX11_clock_81 rfl (fun _ => ?_) (fun q => absurd (by decide) q)
  refine rn_aload_n dX11_clock_86 rfl ?_
  refine rnT_get (i := 0) hG dX11_clock_87 fo_X11_10 rfl rfl ?_
  refine rn_iconst (v := 5) dX11_clock_90 rfl ?_
  refine rnT_newarr (t := 0) (N := 5) (u := 7 + u) (f := (5, .inl (fun _ => 0))) hG (by simp [mdl, hU]; try omega) dX11_clock_91 rfl wd_210 (by decide) (by decide) (by decide) (fun _ => rfl) (fun _ _ => rfl) ?_
  have hGU : (G ++ (mdl (j_a0 D) 0 0 0 ++ U)).length = 84 + (7 + u) := by simp [mdl, hG, hU]; try omega
  refine rn_h (h2 := ((G ++ (mdl (j_a0 D) 0 0 0 ++ U)) ++ [ia 5 (fun _ => 0)], sl + 5)) (by rw [← List.append_assoc G]; rfl) ?_
  refine rn_dup dX11_clock_93 rfl ?_
  refine rn_iconst (v := 0) dX11_clock_94 rfl ?_
  refine rn_iload_n dX11_clock_95 rfl ?_
  refine rnT_iastore (i := 0) hGU dX11_clock_96 rfl rfl (by unfold vp_in; decide) ?_
  refine rn_h (h2 := ((G ++ (mdl (j_a0 D) 0 0 0 ++ U)) ++ [ia 5 (upd (fun _ => 0) 0 a)], sl + 5)) rfl ?_
  refine rn_dup dX11_clock_97 rfl ?_
  refine rn_iconst (v := 1) dX11_clock_98 rfl ?_
  refine rn_iload_n dX11_clock_99 rfl ?_
  refine rnT_iastore (i := 0) hGU dX11_clock_100 rfl rfl (by unfold vp_in; decide) ?_
  refine rn_h (h2 := ((G ++ (mdl (j_a0 D) 0 0 0 ++ U)) ++ [ia 5 (upd (upd (fun _ => 0) 0 a) 1 b)], sl + 5)) rfl ?_
  refine rn_dup dX11_clock_101 rfl ?_
  refine rn_iconst (v := 2) dX11_clock_102 rfl ?_
  refine rn_iload_n dX11_clock_103 rfl ?_
  refine rnT_iastore (i := 0) hGU dX11_clock_104 rfl rfl (by unfold vp_in; decide) ?_
  refine rn_h (h2 := ((G ++ (mdl (j_a0 D) 0 0 0 ++ U)) ++ [ia 5 (upd (upd (upd (fun _ => 0) 0 a) 1 b) 2 c)], sl + 5)) rfl ?_
  refine rn_dup dX11_clock_105 rfl ?_
  refine rn_iconst (v := 3) dX11_clock_106 rfl ?_
  refine rn_iload dX11_clock_107 rfl ?_
  refine rnT_iastore (i := 0) hGU dX11_clock_109 rfl rfl (by unfold vp_in; decide) ?_
  refine rn_h (h2 := ((G ++ (mdl (j_a0 D) 0 0 0 ++ U)) ++ [ia 5 (upd (upd (upd (upd (fun _ => 0) 0 a) 1 b) 2 c) 3 d)], sl + 5)) rfl ?_
  refine rn_dup dX11_clock_110 rfl ?_
  refine rn_iconst (v := 4) dX11_clock_111 rfl ?_
  refine rn_aload_n dX11_clock_112 rfl ?_
  refine rn_h (h2 := (G ++ ((mdl (j_a0 D) 0 0 0 ++ U) ++ [ia 5 (upd (upd (upd (upd (fun _ => 0) 0 a) 1 b) 2 c) 3 d)]), sl + 5)) (by rw [List.append_assoc G]) ?_
  refine rnT_get (i := 0) hG dX11_clock_113 fo_X11_10 rfl rfl ?_
  refine rn_callV dX11_clock_116 cv_X11_37 (c_AL_size (i := 85) (gt_at (i := 1) hG rfl)) rfl (gt_at (i := 1) hG rfl) rfl rfl (by decide) (by decide) rfl (Nat.le_of_ble_eq_true rfl) ?_
  refine rn_h (h2 := ((G ++ (mdl (j_a0 D) 0 0 0 ++ U)) ++ [ia 5 (upd (upd (upd (upd (fun _ => 0) 0 a) 1 b) 2 c) 3 d)], sl + 5)) (by rw [← List.append_assoc G]) ?_
  refine rnT_iastore (i := 0) hGU dX11_clock_119 rfl rfl (by unfold vp_in; decide) ?_
  refine rn_h (h2 := ((G ++ (mdl (j_a0 D) 0 0 0 ++ U)) ++ [ia 5 (upd (upd (upd (upd (upd (fun _ => 0) 0 a) 1 b) 2 c) 3 d) 4 0)], sl + 5)) rfl ?_
  have hT8 : ((mdl (j_a0 D) 0 0 0 ++ U) ++ [ia 5 (upd (upd (upd (upd (upd (fun _ => 0) 0 a) 1 b) 2 c) 3 d) 4 0)] : List j_C).length = 7 + u + 1 := by simp [mdl, hU]; try omega
  have hT7 : ((mdl (j_a0 D) 0 0 0 ++ U)).length = 7 + u := by simp [mdl, hU]; try omega
  refine rn_h (h2 := (G ++ ((mdl (j_a0 D) 0 0 0 ++ U) ++ [ia 5 (upd (upd (upd (upd (upd (fun _ => 0) 0 a) 1 b) 2 c) 3 d) 4 0)]), sl + 5)) (by rw [List.append_assoc G]) ?_
  refine rn_callV dX11_clock_120 cv_X11_25 (c_AL_add (i := 1) (v := 7 + u) (t := 7 + u + 1) hG hT8 rfl (lat_last hT7)) rfl (gt_at (i := 1) hG rfl) rfl rfl (by decide) (by decide) rfl (Nat.le_of_ble_eq_true rfl) ?_
  refine rn_h (h2 := (G ++ (((mdl (j_a0 D) 0 0 0 ++ U) ++ [ia 5 (upd (upd (upd (upd (upd (fun _ => 0) 0 a) 1 b) 2 c) 3 d) 4 0)]).set 1 (cAL 1 (84 + (7 + u + 1) + 1) 1) ++ [oAL (va_up (fun _ => none) 0 (some (84 + (7 + u) + 1)))]), sl + 5 + 10)) rfl ?_
  refine rn_pop dX11_clock_123 rfl ?_
  refine rn_aload_n dX11_clock_124 rfl ?_
  refine rnT_get (i := 0) hG dX11_clock_125 fo_X11_10 rfl rfl ?_
  refine rn_callV dX11_clock_128 cv_X11_37 (c_AL_size (i := 85) (gt_at (i := 1) hG rfl)) rfl (gt_at (i := 1) hG rfl) rfl rfl (by decide) (by decide) rfl (Nat.le_of_ble_eq_true rfl) ?_
  refine rn_iconst (v := 1) dX11_clock_131 rfl ?_
  refine rn_isub dX11_clock_132 ?_
  refine rn_topi (y := 0) (by decide) ?_
  exact rn_ret dX11_clock_133 trivial rfl
set_option maxRecDepth 20000 in
theorem c_X11_clock_0 {a b c d t : Int32} (hG : G.length = 84) (hU : U.length = u)  (h1 : ¬ (4 ≤ a ∧ a ≤ 40)) : Cn l D ad tc L xs mX11_clock 6 500 [.ref 85, .int a, .int b, .int c, .int d] (G ++ (mdl (j_a0 D) t 0 0 ++ U), sl) (some (.int 0)) (G ++ (mdl (j_a0 D) 2 0 0 ++ U), sl) := by
  refine cn_of (lv0 := [(0, .ref 85), (1, .int a), (2, .int b), (3, .int c), (4, .int d)]) (by decide +kernel) ⟨_, rfl, rfl⟩ (fun _ => by simp [lg_sl, j_v, Value.category]) (fun _ => rfl) ?_
  refine rn_aload_n dX11_clock_0 rfl ?_
  refine rn_aload_n dX11_clock_1 rfl ?_
  refine rnT_get (i := 0) hG dX11_clock_2 fo_X11_55 rfl rfl ?_
  refine rn_if_ne (tgt := 19) dX11_clock_5 rfl (fun q => absurd q (by decide)) (fun _ => ?_)
  refine rn_aload_n dX11_clock_8 rfl ?_
  refine rnT_get (i := 0) hG dX11_clock_9 fo_X11_10 rfl rfl ?_
  refine rn_callV dX11_clock_12 cv_X11_37 (c_AL_size (i := 85) (gt_at (i := 1) hG rfl)) rfl (gt_at (i := 1) hG rfl) rfl rfl (by decide) (by decide) rfl (Nat.le_of_ble_eq_true rfl) ?_
  refine rn_iconst (v := 4) dX11_clock_15 rfl ?_
  refine rn_icmp_ne (tgt := 23) dX11_clock_16 rfl (fun _ => ?_) (fun q => absurd q (by decide))
  refine rn_iconst (v := 0) dX11_clock_23 rfl ?_
  refine rn_iconst (v := 1) dX11_clock_24 rfl ?_
  refine rn_callV dX11_clock_25 cv_X11_59 (c_X11_start_0 hG) rfl (gt_at (i := 0) hG rfl) rfl rfl (by decide) (by decide) rfl (Nat.le_of_ble_eq_true rfl) ?_
  refine rn_if_ne (tgt := 84) dX11_clock_28 rfl (fun q => absurd q (by decide)) (fun _ => ?_)
  refine rn_aload_n dX11_clock_31 rfl ?_
  refine rn_iload_n dX11_clock_32 rfl ?_
  refine rn_iconst (v := 4) dX11_clock_33 rfl ?_
  refine rn_bipush (v := 40) dX11_clock_34 rfl ?_
  refine rn_callS dX11_clock_36 cs_X11_41 c_X11_isIn rfl (by decide) (by decide) rfl (Nat.le_of_ble_eq_true rfl) ?_
  refine rn_topi (y := 0) (by rw [bI_0, decide_eq_false_iff_not]; exact h1) ?_
  refine rn_if_eq (tgt := 72) dX11_clock_39 rfl (fun _ => ?_) (fun q => absurd (by decide) q)
  refine rn_iconst (v := 1) dX11_clock_72 rfl ?_
  refine rn_goto (tgt := 77) dX11_clock_73 rfl ?_
  refine rn_iconst (v := 2) dX11_clock_77 rfl ?_
  refine rn_callV dX11_clock_78 cv_X11_33 (c_X11_refuse_1 hG (by decide)) rfl (gt_at (i := 0) hG rfl) rfl rfl (by decide) (by decide) rfl (Nat.le_of_ble_eq_true rfl) ?_
  refine rn_if_eq (tgt := 86) dX11_clock_81 rfl (fun q => absurd q (by decide)) (fun _ => ?_)
  refine rn_iconst (v := 0) dX11_clock_84 rfl ?_
  exact rn_ret dX11_clock_85 trivial rfl
set_option maxRecDepth 20000 in
theorem c_X11_clock_1 {a b c d t : Int32} (hG : G.length = 84) (hU : U.length = u) (h1 : 4 ≤ a ∧ a ≤ 40) (h2 : ¬ (0 ≤ b ∧ b ≤ 40)) : Cn l D ad tc L xs mX11_clock 6 500 [.ref 85, .int a, .int b, .int c, .int d] (G ++ (mdl (j_a0 D) t 0 0 ++ U), sl) (some (.int 0)) (G ++ (mdl (j_a0 D) 2 0 0 ++ U), sl) := by
  refine cn_of (lv0 := [(0, .ref 85), (1, .int a), (2, .int b), (3, .int c), (4, .int d)]) (by decide +kernel) ⟨_, rfl, rfl⟩ (fun _ => by simp [lg_sl, j_v, Value.category]) (fun _ => rfl) ?_
  refine rn_aload_n dX11_clock_0 rfl ?_
  refine rn_aload_n dX11_clock_1 rfl ?_
  refine rnT_get (i := 0) hG dX11_clock_2 fo_X11_55 rfl rfl ?_
  refine rn_if_ne (tgt := 19) dX11_clock_5 rfl (fun q => absurd q (by decide)) (fun _ => ?_)
  refine rn_aload_n dX11_clock_8 rfl ?_
  refine rnT_get (i := 0) hG dX11_clock_9 fo_X11_10 rfl rfl ?_
  refine rn_callV dX11_clock_12 cv_X11_37 (c_AL_size (i := 85) (gt_at (i := 1) hG rfl)) rfl (gt_at (i := 1) hG rfl) rfl rfl (by decide) (by decide) rfl (Nat.le_of_ble_eq_true rfl) ?_
  refine rn_iconst (v := 4) dX11_clock_15 rfl ?_
  refine rn_icmp_ne (tgt := 23) dX11_clock_16 rfl (fun _ => ?_) (fun q => absurd q (by decide))
  refine rn_iconst (v := 0) dX11_clock_23 rfl ?_
  refine rn_iconst (v := 1) dX11_clock_24 rfl ?_
  refine rn_callV dX11_clock_25 cv_X11_59 (c_X11_start_0 hG) rfl (gt_at (i := 0) hG rfl) rfl rfl (by decide) (by decide) rfl (Nat.le_of_ble_eq_true rfl) ?_
  refine rn_if_ne (tgt := 84) dX11_clock_28 rfl (fun q => absurd q (by decide)) (fun _ => ?_)
  refine rn_aload_n dX11_clock_31 rfl ?_
  refine rn_iload_n dX11_clock_32 rfl ?_
  refine rn_iconst (v := 4) dX11_clock_33 rfl ?_
  refine rn_bipush (v := 40) dX11_clock_34 rfl ?_
  refine rn_callS dX11_clock_36 cs_X11_41 c_X11_isIn rfl (by decide) (by decide) rfl (Nat.le_of_ble_eq_true rfl) ?_
  refine rn_topi (y := 1) (is_b (decide_eq_true h1)) ?_
  refine rn_if_eq (tgt := 72) dX11_clock_39 rfl (fun q => absurd q (by decide)) (fun _ => ?_)
  refine rn_iload_n dX11_clock_42 rfl ?_
  refine rn_iconst (v := 0) dX11_clock_43 rfl ?_
  refine rn_bipush (v := 40) dX11_clock_44 rfl ?_
  refine rn_callS dX11_clock_46 cs_X11_41 c_X11_isIn rfl (by decide) (by decide) rfl (Nat.le_of_ble_eq_true rfl) ?_
  refine rn_topi (y := 0) (by rw [bI_0, decide_eq_false_iff_not]; exact h2) ?_
  refine rn_if_eq (tgt := 72) dX11_clock_49 rfl (fun _ => ?_) (fun q => absurd (by decide) q)
  refine rn_iconst (v := 1) dX11_clock_72 rfl ?_
  refine rn_goto (tgt := 77) dX11_clock_73 rfl ?_
  refine rn_iconst (v := 2) dX11_clock_77 rfl ?_
  refine rn_callV dX11_clock_78 cv_X11_33 (c_X11_refuse_1 hG (by decide)) rfl (gt_at (i := 0) hG rfl) rfl rfl (by decide) (by decide) rfl (Nat.le_of_ble_eq_true rfl) ?_
  refine rn_if_eq (tgt := 86) dX11_clock_81 rfl (fun q => absurd q (by decide)) (fun _ => ?_)
  refine rn_iconst (v := 0) dX11_clock_84 rfl ?_
  exact rn_ret dX11_clock_85 trivial rfl
set_option maxRecDepth 20000 in
theorem c_X11_clock_2 {a b c d t : Int32} (hG : G.length = 84) (hU : U.length = u) (h1 : 4 ≤ a ∧ a ≤ 40) (h2 : 0 ≤ b ∧ b ≤ 40) (h3 : ¬ (0 ≤ c ∧ c ≤ 20)) : Cn l D ad tc L xs mX11_clock 6 500 [.ref 85, .int a, .int b, .int c, .int d] (G ++ (mdl (j_a0 D) t 0 0 ++ U), sl) (some (.int 0)) (G ++ (mdl (j_a0 D) 2 0 0 ++ U), sl) := by
  refine cn_of (lv0 := [(0, .ref 85), (1, .int a), (2, .int b), (3, .int c), (4, .int d)]) (by decide +kernel) ⟨_, rfl, rfl⟩ (fun _ => by simp [lg_sl, j_v, Value.category]) (fun _ => rfl) ?_
  refine rn_aload_n dX11_clock_0 rfl ?_
  refine rn_aload_n dX11_clock_1 rfl ?_
  refine rnT_get (i := 0) hG dX11_clock_2 fo_X11_55 rfl rfl ?_
  refine rn_if_ne (tgt := 19) dX11_clock_5 rfl (fun q => absurd q (by decide)) (fun _ => ?_)
  refine rn_aload_n dX11_clock_8 rfl ?_
  refine rnT_get (i := 0) hG dX11_clock_9 fo_X11_10 rfl rfl ?_
  refine rn_callV dX11_clock_12 cv_X11_37 (c_AL_size (i := 85) (gt_at (i := 1) hG rfl)) rfl (gt_at (i := 1) hG rfl) rfl rfl (by decide) (by decide) rfl (Nat.le_of_ble_eq_true rfl) ?_
  refine rn_iconst (v := 4) dX11_clock_15 rfl ?_
  refine rn_icmp_ne (tgt := 23) dX11_clock_16 rfl (fun _ => ?_) (fun q => absurd q (by decide))
  refine rn_iconst (v := 0) dX11_clock_23 rfl ?_
  refine rn_iconst (v := 1) dX11_clock_24 rfl ?_
  refine rn_callV dX11_clock_25 cv_X11_59 (c_X11_start_0 hG) rfl (gt_at (i := 0) hG rfl) rfl rfl (by decide) (by decide) rfl (Nat.le_of_ble_eq_true rfl) ?_
  refine rn_if_ne (tgt := 84) dX11_clock_28 rfl (fun q => absurd q (by decide)) (fun _ => ?_)
  refine rn_aload_n dX11_clock_31 rfl ?_
  refine rn_iload_n dX11_clock_32 rfl ?_
  refine rn_iconst (v := 4) dX11_clock_33 rfl ?_
  refine rn_bipush (v := 40) dX11_clock_34 rfl ?_
  refine rn_callS dX11_clock_36 cs_X11_41 c_X11_isIn rfl (by decide) (by decide) rfl (Nat.le_of_ble_eq_true rfl) ?_
  refine rn_topi (y := 1) (is_b (decide_eq_true h1)) ?_
  refine rn_if_eq (tgt := 72) dX11_clock_39 rfl (fun q => absurd q (by decide)) (fun _ => ?_)
  refine rn_iload_n dX11_clock_42 rfl ?_
  refine rn_iconst (v := 0) dX11_clock_43 rfl ?_
  refine rn_bipush (v := 40) dX11_clock_44 rfl ?_
  refine rn_callS dX11_clock_46 cs_X11_41 c_X11_isIn rfl (by decide) (by decide) rfl (Nat.le_of_ble_eq_true rfl) ?_
  refine rn_topi (y := 1) (is_b (decide_eq_true h2)) ?_
  refine rn_if_eq (tgt := 72) dX11_clock_49 rfl (fun q => absurd q (by decide)) (fun _ => ?_)
  refine rn_iload_n dX11_clock_52 rfl ?_
  refine rn_iconst (v := 0) dX11_clock_53 rfl ?_
  refine rn_bipush (v := 20) dX11_clock_54 rfl ?_
  refine rn_callS dX11_clock_56 cs_X11_41 c_X11_isIn rfl (by decide) (by decide) rfl (Nat.le_of_ble_eq_true rfl) ?_
  refine rn_topi (y := 0) (by rw [bI_0, decide_eq_false_iff_not]; exact h3) ?_
  refine rn_if_eq (tgt := 72) dX11_clock_59 rfl (fun _ => ?_) (fun q => absurd (by decide) q)
  refine rn_iconst (v := 1) dX11_clock_72 rfl ?_
  refine rn_goto (tgt := 77) dX11_clock_73 rfl ?_
  refine rn_iconst (v := 2) dX11_clock_77 rfl ?_
  refine rn_callV dX11_clock_78 cv_X11_33 (c_X11_refuse_1 hG (by decide)) rfl (gt_at (i := 0) hG rfl) rfl rfl (by decide) (by decide) rfl (Nat.le_of_ble_eq_true rfl) ?_
  refine rn_if_eq (tgt := 86) dX11_clock_81 rfl (fun q => absurd q (by decide)) (fun _ => ?_)
  refine rn_iconst (v := 0) dX11_clock_84 rfl ?_
  exact rn_ret dX11_clock_85 trivial rfl
set_option maxRecDepth 20000 in
theorem c_X11_clock_3 {a b c d t : Int32} (hG : G.length = 84) (hU : U.length = u) (h1 : 4 ≤ a ∧ a ≤ 40) (h2 : 0 ≤ b ∧ b ≤ 40) (h3 : 0 ≤ c ∧ c ≤ 20) (h4 : ¬ (0 ≤ d ∧ d ≤ 1)) : Cn l D ad tc L xs mX11_clock 6 500 [.ref 85, .int a, .int b, .int c, .int d] (G ++ (mdl (j_a0 D) t 0 0 ++ U), sl) (some (.int 0)) (G ++ (mdl (j_a0 D) 2 0 0 ++ U), sl) := by
  refine cn_of (lv0 := [(0, .ref 85), (1, .int a), (2, .int b), (3, .int c), (4, .int d)]) (by decide +kernel) ⟨_, rfl, rfl⟩ (fun _ => by simp [lg_sl, j_v, Value.category]) (fun _ => rfl) ?_
  refine rn_aload_n dX11_clock_0 rfl ?_
  refine rn_aload_n dX11_clock_1 rfl ?_
  refine rnT_get (i := 0) hG dX11_clock_2 fo_X11_55 rfl rfl ?_
  refine rn_if_ne (tgt := 19) dX11_clock_5 rfl (fun q => absurd q (by decide)) (fun _ => ?_)
  refine rn_aload_n dX11_clock_8 rfl ?_
  refine rnT_get (i := 0) hG dX11_clock_9 fo_X11_10 rfl rfl ?_
  refine rn_callV dX11_clock_12 cv_X11_37 (c_AL_size (i := 85) (gt_at (i := 1) hG rfl)) rfl (gt_at (i := 1) hG rfl) rfl rfl (by decide) (by decide) rfl (Nat.le_of_ble_eq_true rfl) ?_
  refine rn_iconst (v := 4) dX11_clock_15 rfl ?_
  refine rn_icmp_ne (tgt := 23) dX11_clock_16 rfl (fun _ => ?_) (fun q => absurd q (by decide))
  refine rn_iconst (v := 0) dX11_clock_23 rfl ?_
  refine rn_iconst (v := 1) dX11_clock_24 rfl ?_
  refine rn_callV dX11_clock_25 cv_X11_59 (c_X11_start_0 hG) rfl (gt_at (i := 0) hG rfl) rfl rfl (by decide) (by decide) rfl (Nat.le_of_ble_eq_true rfl) ?_
  refine rn_if_ne (tgt := 84) dX11_clock_28 rfl (fun q => absurd q (by decide)) (fun _ => ?_)
  refine rn_aload_n dX11_clock_31 rfl ?_
  refine rn_iload_n dX11_clock_32 rfl ?_
  refine rn_iconst (v := 4) dX11_clock_33 rfl ?_
  refine rn_bipush (v := 40) dX11_clock_34 rfl ?_
  refine rn_callS dX11_clock_36 cs_X11_41 c_X11_isIn rfl (by decide) (by decide) rfl (Nat.le_of_ble_eq_true rfl) ?_
  refine rn_topi (y := 1) (is_b (decide_eq_true h1)) ?_
  refine rn_if_eq (tgt := 72) dX11_clock_39 rfl (fun q => absurd q (by decide)) (fun _ => ?_)
  refine rn_iload_n dX11_clock_42 rfl ?_
  refine rn_iconst (v := 0) dX11_clock_43 rfl ?_
  refine rn_bipush (v := 40) dX11_clock_44 rfl ?_
  refine rn_callS dX11_clock_46 cs_X11_41 c_X11_isIn rfl (by decide) (by decide) rfl (Nat.le_of_ble_eq_true rfl) ?_
  refine rn_topi (y := 1) (is_b (decide_eq_true h2)) ?_
  refine rn_if_eq (tgt := 72) dX11_clock_49 rfl (fun q => absurd q (by decide)) (fun _ => ?_)
  refine rn_iload_n dX11_clock_52 rfl ?_
  refine rn_iconst (v := 0) dX11_clock_53 rfl ?_
  refine rn_bipush (v := 20) dX11_clock_54 rfl ?_
  refine rn_callS dX11_clock_56 cs_X11_41 c_X11_isIn rfl (by decide) (by decide) rfl (Nat.le_of_ble_eq_true rfl) ?_
  refine rn_topi (y := 1) (is_b (decide_eq_true h3)) ?_
  refine rn_if_eq (tgt := 72) dX11_clock_59 rfl (fun q => absurd q (by decide)) (fun _ => ?_)
  refine rn_iload dX11_clock_62 rfl ?_
  refine rn_iconst (v := 0) dX11_clock_64 rfl ?_
  refine rn_iconst (v := 1) dX11_clock_65 rfl ?_
  refine rn_callS dX11_clock_66 cs_X11_41 c_X11_isIn rfl (by decide) (by decide) rfl (Nat.le_of_ble_eq_true rfl) ?_
  refine rn_topi (y := 0) (by rw [bI_0, decide_eq_false_iff_not]; exact h4) ?_
  refine rn_if_ne (tgt := 76) dX11_clock_69 rfl (fun q => absurd q (by decide)) (fun _ => ?_)
  refine rn_iconst (v := 1) dX11_clock_72 rfl ?_
  refine rn_goto (tgt := 77) dX11_clock_73 rfl ?_
  refine rn_iconst (v := 2) dX11_clock_77 rfl ?_
  refine rn_callV dX11_clock_78 cv_X11_33 (c_X11_refuse_1 hG (by decide)) rfl (gt_at (i := 0) hG rfl) rfl rfl (by decide) (by decide) rfl (Nat.le_of_ble_eq_true rfl) ?_
  refine rn_if_eq (tgt := 86) dX11_clock_81 rfl (fun q => absurd q (by decide)) (fun _ => ?_)
  refine rn_iconst (v := 0) dX11_clock_84 rfl ?_
  exact rn_ret dX11_clock_85 trivial rfl
theorem c_X11_clock_no {a b c d t : Int32} (hG : G.length = 84) (hU : U.length = u) (hne : ¬ ((4 ≤ a ∧ a ≤ 40) ∧ (0 ≤ b ∧ b ≤ 40) ∧ (0 ≤ c ∧ c ≤ 20) ∧ (0 ≤ d ∧ d ≤ 1))) : Cn l D ad tc L xs mX11_clock 6 500 [.ref 85, .int a, .int b, .int c, .int d] (G ++ (mdl (j_a0 D) t 0 0 ++ U), sl) (some (.int 0)) (G ++ (mdl (j_a0 D) 2 0 0 ++ U), sl) := by
  by_cases h1 : 4 ≤ a ∧ a ≤ 40
  · by_cases h2 : 0 ≤ b ∧ b ≤ 40
    · by_cases h3 : 0 ≤ c ∧ c ≤ 20
      · exact c_X11_clock_3 hG hU h1 h2 h3 (fun h4 => hne ⟨h1, h2, h3, h4⟩)
      · exact c_X11_clock_2 hG hU h1 h2 h3
    · exact c_X11_clock_1 hG hU h1 h2
  · exact c_X11_clock_0 hG hU h1
set_option maxRecDepth 20000 in
theorem c_X11_divide {a b c t : Int32} (hG : G.length = 84) (hU : U.length = u)  : Cn l D ad tc L xs mX11_divide 6 500 [.ref 85, .int a, .int b, .int c] (G ++ (mdl (j_a0 D) t 0 0 ++ U), sl) (some (.int 0)) (G ++ (mdl (j_a0 D) 2 0 0 ++ U), sl) := by
  refine cn_of (lv0 := [(0, .ref 85), (1, .int a), (2, .int b), (3, .int c)]) (by decide +kernel) ⟨_, rfl, rfl⟩ (fun _ => by simp [lg_sl, j_v, Value.category]) (fun _ => rfl) ?_
  refine rn_aload_n dX11_divide_0 rfl ?_
  refine rn_aload_n dX11_divide_1 rfl ?_
  refine rnT_get (i := 0) hG dX11_divide_2 fo_X11_55 rfl rfl ?_
  refine rn_if_ne (tgt := 19) dX11_divide_5 rfl (fun q => absurd q (by decide)) (fun _ => ?_)
  refine rn_aload_n dX11_divide_8 rfl ?_
  refine rnT_get (i := 0) hG dX11_divide_9 fo_X11_10 rfl rfl ?_
  refine rn_callV dX11_divide_12 cv_X11_37 (c_AL_size (i := 85) (gt_at (i := 1) hG rfl)) rfl (gt_at (i := 1) hG rfl) rfl rfl (by decide) (by decide) rfl (Nat.le_of_ble_eq_true rfl) ?_
  refine rn_iconst (v := 4) dX11_divide_15 rfl ?_
  refine rn_icmp_ne (tgt := 23) dX11_divide_16 rfl (fun _ => ?_) (fun q => absurd q (by decide))
  refine rn_iconst (v := 0) dX11_divide_23 rfl ?_
  refine rn_iconst (v := 1) dX11_divide_24 rfl ?_
  refine rn_callV dX11_divide_25 cv_X11_59 (c_X11_start_0 hG) rfl (gt_at (i := 0) hG rfl) rfl rfl (by decide) (by decide) rfl (Nat.le_of_ble_eq_true rfl) ?_
  refine rn_if_ne (tgt := 76) dX11_divide_28 rfl (fun q => absurd q (by decide)) (fun _ => ?_)
  refine rn_aload_n dX11_divide_31 rfl ?_
  refine rn_aload_n dX11_divide_32 rfl ?_
  refine rn_iload_n dX11_divide_33 rfl ?_
  refine rn_callV dX11_divide_34 cv_X11_62 (c_X11_isNoClock hG) rfl (gt_at (i := 0) hG rfl) rfl rfl (by decide) (by decide) rfl (Nat.le_of_ble_eq_true rfl) ?_
  refine rn_iconst (v := 2) dX11_divide_37 rfl ?_
  refine rn_callV dX11_divide_38 cv_X11_33 (c_X11_refuse_1 hG (by decide)) rfl (gt_at (i := 0) hG rfl) rfl rfl (by decide) (by decide) rfl (Nat.le_of_ble_eq_true rfl) ?_
  refine rn_if_ne (tgt := 76) dX11_divide_41 rfl (fun _ => ?_) (fun q => absurd q (by decide))
  refine rn_iconst (v := 0) dX11_divide_76 rfl ?_
  exact rn_ret dX11_divide_77 trivial rfl
set_option maxRecDepth 20000 in
theorem c_X11_corner_ok {a b t : Int32} (hG : G.length = 84) (hU : U.length = u) (h1 : 8 ≤ a ∧ a ≤ 16) (h2 : 1 ≤ b ∧ b ≤ 8) : Cn l D ad tc L xs mX11_corner 6 500 [.ref 85, .int a, .int b] (G ++ (mdl (j_a0 D) t 0 0 ++ U), sl) (some (.int 1)) (G ++ (((((mdl (j_a0 D) 0 0 0 ++ U) ++ [ia 2 (upd (upd (fun _ => 0) 0 a) 1 b)]).set 2 (cAL 2 (84 + 6 + 1) 1)).set 6 (oAL (va_up (va_up (fun _ => none) 0 (some 90)) 1 (some (84 + (7 + u) + 1))))).set 2 (cAL 2 (84 + 6 + 1) 2)), sl + 2) := by
  refine cn_of (lv0 := [(0, .ref 85), (1, .int a), (2, .int b)]) (by decide +kernel) ⟨_, rfl, rfl⟩ (fun _ => by simp [lg_sl, j_v, Value.category]) (fun _ => rfl) ?_
  refine rn_aload_n dX11_corner_0 rfl ?_
  refine rn_aload_n dX11_corner_1 rfl ?_
  refine rnT_get (i := 0) hG dX11_corner_2 fo_X11_55 rfl rfl ?_
  refine rn_if_ne (tgt := 19) dX11_corner_5 rfl (fun q => absurd q (by decide)) (fun _ => ?_)
  refine rn_aload_n dX11_corner_8 rfl ?_
  refine rnT_get (i := 0) hG dX11_corner_9 fo_X11_16 rfl rfl ?_
  refine rn_callV dX11_corner_12 cv_X11_37 (c_AL_size (i := 86) (gt_at (i := 2) hG rfl)) rfl (gt_at (i := 2) hG rfl) rfl rfl (by decide) (by decide) rfl (Nat.le_of_ble_eq_true rfl) ?_
  refine rn_iconst (v := 3) dX11_corner_15 rfl ?_
  refine rn_icmp_ne (tgt := 23) dX11_corner_16 rfl (fun _ => ?_) (fun q => absurd q (by decide))
  refine rn_iconst (v := 0) dX11_corner_23 rfl ?_
  refine rn_iconst (v := 1) dX11_corner_24 rfl ?_
  refine rn_callV dX11_corner_25 cv_X11_59 (c_X11_start_0 hG) rfl (gt_at (i := 0) hG rfl) rfl rfl (by decide) (by decide) rfl (Nat.le_of_ble_eq_true rfl) ?_
  refine rn_if_ne (tgt := 65) dX11_corner_28 rfl (fun q => absurd q (by decide)) (fun _ => ?_)
  refine rn_aload_n dX11_corner_31 rfl ?_
  refine rn_iload_n dX11_corner_32 rfl ?_
  refine rn_bipush (v := 8) dX11_corner_33 rfl ?_
  refine rn_bipush (v := 16) dX11_corner_35 rfl ?_
  refine rn_callS dX11_corner_37 cs_X11_41 c_X11_isIn rfl (by decide) (by decide) rfl (Nat.le_of_ble_eq_true rfl) ?_
  refine rn_topi (y := 1) (is_b (decide_eq_true h1)) ?_
  refine rn_if_eq (tgt := 53) dX11_corner_40 rfl (fun q => absurd q (by decide)) (fun _ => ?_)
  refine rn_iload_n dX11_corner_43 rfl ?_
  refine rn_iconst (v := 1) dX11_corner_44 rfl ?_
  refine rn_bipush (v := 8) dX11_corner_45 rfl ?_
  refine rn_callS dX11_corner_47 cs_X11_41 c_X11_isIn rfl (by decide) (by decide) rfl (Nat.le_of_ble_eq_true rfl) ?_
  refine rn_topi (y := 1) (is_b (decide_eq_true h2)) ?_
  refine rn_if_ne (tgt := 57) dX11_corner_50 rfl (fun _ => ?_) (fun q => absurd q (by decide))
  refine rn_iconst (v := 0) dX11_corner_57 rfl ?_
  refine rn_iconst (v := 2) dX11_corner_58 rfl ?_
  refine rn_callV dX11_corner_59 cv_X11_33 (c_X11_refuse_0 hG) rfl (gt_at (i := 0) hG rfl) rfl rfl (by decide) (by decide) rfl (Nat.le_of_ble_eq_true rfl) ?_
  refine rn_if_eq (tgt := 67) dX11_corner_62 rfl (fun _ => ?_) (fun q => absurd (by decide) q)
  refine rn_aload_n dX11_corner_67 rfl ?_
  refine rnT_get (i := 0) hG dX11_corner_68 fo_X11_16 rfl rfl ?_
  refine rn_iconst (v := 2) dX11_corner_71 rfl ?_
  refine rnT_newarr (t := 0) (N := 2) (u := 7 + u) (f := (2, .inl (fun _ => 0))) hG (by simp [mdl, hU]; try omega) dX11_corner_72 rfl wd_210 (by decide) (by decide) (by decide) (fun _ => rfl) (fun _ _ => rfl) ?_
  have hGU : (G ++ (mdl (j_a0 D) 0 0 0 ++ U)).length = 84 + (7 + u) := by simp [mdl, hG, hU]; try omega
  refine rn_h (h2 := ((G ++ (mdl (j_a0 D) 0 0 0 ++ U)) ++ [ia 2 (fun _ => 0)], sl + 2)) (by rw [← List.append_assoc G]; rfl) ?_
  refine rn_dup dX11_corner_74 rfl ?_
  refine rn_iconst (v := 0) dX11_corner_75 rfl ?_
  refine rn_iload_n dX11_corner_76 rfl ?_
  refine rnT_iastore (i := 0) hGU dX11_corner_77 rfl rfl (by unfold vp_in; decide) ?_
  refine rn_h (h2 := ((G ++ (mdl (j_a0 D) 0 0 0 ++ U)) ++ [ia 2 (upd (fun _ => 0) 0 a)], sl + 2)) rfl ?_
  refine rn_dup dX11_corner_78 rfl ?_
  refine rn_iconst (v := 1) dX11_corner_79 rfl ?_
  refine rn_iload_n dX11_corner_80 rfl ?_
  refine rnT_iastore (i := 0) hGU dX11_corner_81 rfl rfl (by unfold vp_in; decide) ?_
  refine rn_h (h2 := ((G ++ (mdl (j_a0 D) 0 0 0 ++ U)) ++ [ia 2 (upd (upd (fun _ => 0) 0 a) 1 b)], sl + 2)) rfl ?_
  have hT8 : ((mdl (j_a0 D) 0 0 0 ++ U) ++ [ia 2 (upd (upd (fun _ => 0) 0 a) 1 b)] : List j_C).length = 7 + u + 1 := by simp [mdl, hU]; try omega
  have hT7 : ((mdl (j_a0 D) 0 0 0 ++ U)).length = 7 + u := by simp [mdl, hU]; try omega
  refine rn_h (h2 := (G ++ ((mdl (j_a0 D) 0 0 0 ++ U) ++ [ia 2 (upd (upd (fun _ => 0) 0 a) 1 b)]), sl + 2)) (by rw [List.append_assoc G]) ?_
  refine rn_callV dX11_corner_82 cv_X11_25 (c_AL_addb (i := 2) (v := 7 + u) (w := 6) hG rfl rfl (lat_last hT7)) rfl (gt_at (i := 2) hG rfl) rfl rfl (by decide) (by decide) rfl (Nat.le_of_ble_eq_true rfl) ?_
  refine rn_h (h2 := (G ++ (((((mdl (j_a0 D) 0 0 0 ++ U) ++ [ia 2 (upd (upd (fun _ => 0) 0 a) 1 b)]).set 2 (cAL 2 (84 + 6 + 1) 1)).set 6 (oAL (va_up (va_up (fun _ => none) 0 (some 90)) 1 (some (84 + (7 + u) + 1))))).set 2 (cAL 2 (84 + 6 + 1) 2)), sl + 2)) rfl ?_
  refine rn_pop dX11_corner_85 rfl ?_
  refine rn_aload_n dX11_corner_86 rfl ?_
  refine rnT_get (i := 0) hG dX11_corner_87 fo_X11_16 rfl rfl ?_
  refine rn_callV dX11_corner_90 cv_X11_37 (c_AL_size (i := 86) (gt_at (i := 2) hG rfl)) rfl (gt_at (i := 2) hG rfl) rfl rfl (by decide) (by decide) rfl (Nat.le_of_ble_eq_true rfl) ?_
  refine rn_iconst (v := 1) dX11_corner_93 rfl ?_
  refine rn_isub dX11_corner_94 ?_
  refine rn_topi (y := 1) (by decide) ?_
  exact rn_ret dX11_corner_95 trivial rfl
set_option maxRecDepth 20000 in
theorem c_X11_corner_0 {a b t : Int32} (hG : G.length = 84) (hU : U.length = u) (h1 : ¬ (8 ≤ a ∧ a ≤ 16)) : Cn l D ad tc L xs mX11_corner 6 500 [.ref 85, .int a, .int b] (G ++ (mdl (j_a0 D) t 0 0 ++ U), sl) (some (.int 0)) (G ++ (mdl (j_a0 D) 2 0 0 ++ U), sl) := by
  refine cn_of (lv0 := [(0, .ref 85), (1, .int a), (2, .int b)]) (by decide +kernel) ⟨_, rfl, rfl⟩ (fun _ => by simp [lg_sl, j_v, Value.category]) (fun _ => rfl) ?_
  refine rn_aload_n dX11_corner_0 rfl ?_
  refine rn_aload_n dX11_corner_1 rfl ?_
  refine rnT_get (i := 0) hG dX11_corner_2 fo_X11_55 rfl rfl ?_
  refine rn_if_ne (tgt := 19) dX11_corner_5 rfl (fun q => absurd q (by decide)) (fun _ => ?_)
  refine rn_aload_n dX11_corner_8 rfl ?_
  refine rnT_get (i := 0) hG dX11_corner_9 fo_X11_16 rfl rfl ?_
  refine rn_callV dX11_corner_12 cv_X11_37 (c_AL_size (i := 86) (gt_at (i := 2) hG rfl)) rfl (gt_at (i := 2) hG rfl) rfl rfl (by decide) (by decide) rfl (Nat.le_of_ble_eq_true rfl) ?_
  refine rn_iconst (v := 3) dX11_corner_15 rfl ?_
  refine rn_icmp_ne (tgt := 23) dX11_corner_16 rfl (fun _ => ?_) (fun q => absurd q (by decide))
  refine rn_iconst (v := 0) dX11_corner_23 rfl ?_
  refine rn_iconst (v := 1) dX11_corner_24 rfl ?_
  refine rn_callV dX11_corner_25 cv_X11_59 (c_X11_start_0 hG) rfl (gt_at (i := 0) hG rfl) rfl rfl (by decide) (by decide) rfl (Nat.le_of_ble_eq_true rfl) ?_
  refine rn_if_ne (tgt := 65) dX11_corner_28 rfl (fun q => absurd q (by decide)) (fun _ => ?_)
  refine rn_aload_n dX11_corner_31 rfl ?_
  refine rn_iload_n dX11_corner_32 rfl ?_
  refine rn_bipush (v := 8) dX11_corner_33 rfl ?_
  refine rn_bipush (v := 16) dX11_corner_35 rfl ?_
  refine rn_callS dX11_corner_37 cs_X11_41 c_X11_isIn rfl (by decide) (by decide) rfl (Nat.le_of_ble_eq_true rfl) ?_
  refine rn_topi (y := 0) (by rw [bI_0, decide_eq_false_iff_not]; exact h1) ?_
  refine rn_if_eq (tgt := 53) dX11_corner_40 rfl (fun _ => ?_) (fun q => absurd (by decide) q)
  refine rn_iconst (v := 1) dX11_corner_53 rfl ?_
  refine rn_goto (tgt := 58) dX11_corner_54 rfl ?_
  refine rn_iconst (v := 2) dX11_corner_58 rfl ?_
  refine rn_callV dX11_corner_59 cv_X11_33 (c_X11_refuse_1 hG (by decide)) rfl (gt_at (i := 0) hG rfl) rfl rfl (by decide) (by decide) rfl (Nat.le_of_ble_eq_true rfl) ?_
  refine rn_if_eq (tgt := 67) dX11_corner_62 rfl (fun q => absurd q (by decide)) (fun _ => ?_)
  refine rn_iconst (v := 0) dX11_corner_65 rfl ?_
  exact rn_ret dX11_corner_66 trivial rfl
set_option maxRecDepth 20000 in
theorem c_X11_corner_1 {a b t : Int32} (hG : G.length = 84) (hU : U.length = u) (h1 : 8 ≤ a ∧ a ≤ 16) (h2 : ¬ (1 ≤ b ∧ b ≤ 8)) : Cn l D ad tc L xs mX11_corner 6 500 [.ref 85, .int a, .int b] (G ++ (mdl (j_a0 D) t 0 0 ++ U), sl) (some (.int 0)) (G ++ (mdl (j_a0 D) 2 0 0 ++ U), sl) := by
  refine cn_of (lv0 := [(0, .ref 85), (1, .int a), (2, .int b)]) (by decide +kernel) ⟨_, rfl, rfl⟩ (fun _ => by simp [lg_sl, j_v, Value.category]) (fun _ => rfl) ?_
  refine rn_aload_n dX11_corner_0 rfl ?_
  refine rn_aload_n dX11_corner_1 rfl ?_
  refine rnT_get (i := 0) hG dX11_corner_2 fo_X11_55 rfl rfl ?_
  refine rn_if_ne (tgt := 19) dX11_corner_5 rfl (fun q => absurd q (by decide)) (fun _ => ?_)
  refine rn_aload_n dX11_corner_8 rfl ?_
  refine rnT_get (i := 0) hG dX11_corner_9 fo_X11_16 rfl rfl ?_
  refine rn_callV dX11_corner_12 cv_X11_37 (c_AL_size (i := 86) (gt_at (i := 2) hG rfl)) rfl (gt_at (i := 2) hG rfl) rfl rfl (by decide) (by decide) rfl (Nat.le_of_ble_eq_true rfl) ?_
  refine rn_iconst (v := 3) dX11_corner_15 rfl ?_
  refine rn_icmp_ne (tgt := 23) dX11_corner_16 rfl (fun _ => ?_) (fun q => absurd q (by decide))
  refine rn_iconst (v := 0) dX11_corner_23 rfl ?_
  refine rn_iconst (v := 1) dX11_corner_24 rfl ?_
  refine rn_callV dX11_corner_25 cv_X11_59 (c_X11_start_0 hG) rfl (gt_at (i := 0) hG rfl) rfl rfl (by decide) (by decide) rfl (Nat.le_of_ble_eq_true rfl) ?_
  refine rn_if_ne (tgt := 65) dX11_corner_28 rfl (fun q => absurd q (by decide)) (fun _ => ?_)
  refine rn_aload_n dX11_corner_31 rfl ?_
  refine rn_iload_n dX11_corner_32 rfl ?_
  refine rn_bipush (v := 8) dX11_corner_33 rfl ?_
  refine rn_bipush (v := 16) dX11_corner_35 rfl ?_
  refine rn_callS dX11_corner_37 cs_X11_41 c_X11_isIn rfl (by decide) (by decide) rfl (Nat.le_of_ble_eq_true rfl) ?_
  refine rn_topi (y := 1) (is_b (decide_eq_true h1)) ?_
  refine rn_if_eq (tgt := 53) dX11_corner_40 rfl (fun q => absurd q (by decide)) (fun _ => ?_)
  refine rn_iload_n dX11_corner_43 rfl ?_
  refine rn_iconst (v := 1) dX11_corner_44 rfl ?_
  refine rn_bipush (v := 8) dX11_corner_45 rfl ?_
  refine rn_callS dX11_corner_47 cs_X11_41 c_X11_isIn rfl (by decide) (by decide) rfl (Nat.le_of_ble_eq_true rfl) ?_
  refine rn_topi (y := 0) (by rw [bI_0, decide_eq_false_iff_not]; exact h2) ?_
  refine rn_if_ne (tgt := 57) dX11_corner_50 rfl (fun q => absurd q (by decide)) (fun _ => ?_)
  refine rn_iconst (v := 1) dX11_corner_53 rfl ?_
  refine rn_goto (tgt := 58) dX11_corner_54 rfl ?_
  refine rn_iconst (v := 2) dX11_corner_58 rfl ?_
  refine rn_callV dX11_corner_59 cv_X11_33 (c_X11_refuse_1 hG (by decide)) rfl (gt_at (i := 0) hG rfl) rfl rfl (by decide) (by decide) rfl (Nat.le_of_ble_eq_true rfl) ?_
  refine rn_if_eq (tgt := 67) dX11_corner_62 rfl (fun q => absurd q (by decide)) (fun _ => ?_)
  refine rn_iconst (v := 0) dX11_corner_65 rfl ?_
  exact rn_ret dX11_corner_66 trivial rfl
theorem c_X11_corner_no {a b t : Int32} (hG : G.length = 84) (hU : U.length = u) (hne : ¬ ((8 ≤ a ∧ a ≤ 16) ∧ (1 ≤ b ∧ b ≤ 8))) : Cn l D ad tc L xs mX11_corner 6 500 [.ref 85, .int a, .int b] (G ++ (mdl (j_a0 D) t 0 0 ++ U), sl) (some (.int 0)) (G ++ (mdl (j_a0 D) 2 0 0 ++ U), sl) := by
  by_cases h1 : 8 ≤ a ∧ a ≤ 16
  · exact c_X11_corner_1 hG hU h1 (fun h2 => hne ⟨h1, h2⟩)
  · exact c_X11_corner_0 hG hU h1
set_option maxRecDepth 20000 in
theorem c_X11_feed {a b t : Int32} (hG : G.length = 84) (hU : U.length = u)  : Cn l D ad tc L xs mX11_feed 6 500 [.ref 85, .int a, .int b] (G ++ (mdl (j_a0 D) t 0 0 ++ U), sl) (some (.int 0)) (G ++ (mdl (j_a0 D) 2 0 0 ++ U), sl) := by
  refine cn_of (lv0 := [(0, .ref 85), (1, .int a), (2, .int b)]) (by decide +kernel) ⟨_, rfl, rfl⟩ (fun _ => by simp [lg_sl, j_v, Value.category]) (fun _ => rfl) ?_
  refine rn_aload_n dX11_feed_0 rfl ?_
  refine rn_aload_n dX11_feed_1 rfl ?_
  refine rnT_get (i := 0) hG dX11_feed_2 fo_X11_55 rfl rfl ?_
  refine rn_iconst (v := 1) dX11_feed_5 rfl ?_
  refine rn_callV dX11_feed_6 cv_X11_59 (c_X11_start_0 hG) rfl (gt_at (i := 0) hG rfl) rfl rfl (by decide) (by decide) rfl (Nat.le_of_ble_eq_true rfl) ?_
  refine rn_if_ne (tgt := 74) dX11_feed_9 rfl (fun q => absurd q (by decide)) (fun _ => ?_)
  refine rn_aload_n dX11_feed_12 rfl ?_
  refine rn_aload_n dX11_feed_13 rfl ?_
  refine rn_iload_n dX11_feed_14 rfl ?_
  refine rn_callV dX11_feed_15 cv_X11_66 (c_X11_isNoNode hG) rfl (gt_at (i := 0) hG rfl) rfl rfl (by decide) (by decide) rfl (Nat.le_of_ble_eq_true rfl) ?_
  refine rn_if_ne (tgt := 29) dX11_feed_18 rfl (fun _ => ?_) (fun q => absurd q (by decide))
  refine rn_iconst (v := 1) dX11_feed_29 rfl ?_
  refine rn_goto (tgt := 34) dX11_feed_30 rfl ?_
  refine rn_iconst (v := 2) dX11_feed_34 rfl ?_
  refine rn_callV dX11_feed_35 cv_X11_33 (c_X11_refuse_1 hG (by decide)) rfl (gt_at (i := 0) hG rfl) rfl rfl (by decide) (by decide) rfl (Nat.le_of_ble_eq_true rfl) ?_
  refine rn_if_ne (tgt := 74) dX11_feed_38 rfl (fun _ => ?_) (fun q => absurd q (by decide))
  refine rn_iconst (v := 0) dX11_feed_74 rfl ?_
  exact rn_ret dX11_feed_75 trivial rfl
set_option maxRecDepth 20000 in
theorem c_X11_size {a b t : Int32} (hG : G.length = 84) (hU : U.length = u)  : Cn l D ad tc L xs mX11_size 6 500 [.ref 85, .int a, .int b] (G ++ (mdl (j_a0 D) t 0 0 ++ U), sl) (some (.int 0)) (G ++ (mdl (j_a0 D) 2 0 0 ++ U), sl) := by
  refine cn_of (lv0 := [(0, .ref 85), (1, .int a), (2, .int b)]) (by decide +kernel) ⟨_, rfl, rfl⟩ (fun _ => by simp [lg_sl, j_v, Value.category]) (fun _ => rfl) ?_
  refine rn_aload_n dX11_size_0 rfl ?_
  refine rn_aload_n dX11_size_1 rfl ?_
  refine rnT_get (i := 0) hG dX11_size_2 fo_X11_55 rfl rfl ?_
  refine rn_iconst (v := 1) dX11_size_5 rfl ?_
  refine rn_callV dX11_size_6 cv_X11_59 (c_X11_start_0 hG) rfl (gt_at (i := 0) hG rfl) rfl rfl (by decide) (by decide) rfl (Nat.le_of_ble_eq_true rfl) ?_
  refine rn_if_ne (tgt := 37) dX11_size_9 rfl (fun q => absurd q (by decide)) (fun _ => ?_)
  refine rn_aload_n dX11_size_12 rfl ?_
  refine rn_aload_n dX11_size_13 rfl ?_
  refine rn_iload_n dX11_size_14 rfl ?_
  refine rn_callV dX11_size_15 cv_X11_66 (c_X11_isNoNode hG) rfl (gt_at (i := 0) hG rfl) rfl rfl (by decide) (by decide) rfl (Nat.le_of_ble_eq_true rfl) ?_
  refine rn_iconst (v := 2) dX11_size_18 rfl ?_
  refine rn_callV dX11_size_19 cv_X11_33 (c_X11_refuse_1 hG (by decide)) rfl (gt_at (i := 0) hG rfl) rfl rfl (by decide) (by decide) rfl (Nat.le_of_ble_eq_true rfl) ?_
  refine rn_if_ne (tgt := 37) dX11_size_22 rfl (fun _ => ?_) (fun q => absurd q (by decide))
  refine rn_iconst (v := 0) dX11_size_37 rfl ?_
  exact rn_ret dX11_size_38 trivial rfl
set_option maxRecDepth 20000 in
theorem c_X11_wire {a b t : Int32} (hG : G.length = 84) (hU : U.length = u)  : Cn l D ad tc L xs mX11_wire 6 500 [.ref 85, .int a, .int b] (G ++ (mdl (j_a0 D) t 0 0 ++ U), sl) (some (.int 0)) (G ++ (mdl (j_a0 D) 2 0 0 ++ U), sl) := by
  refine cn_of (lv0 := [(0, .ref 85), (1, .int a), (2, .int b)]) (by decide +kernel) ⟨_, rfl, rfl⟩ (fun _ => by simp [lg_sl, j_v, Value.category]) (fun _ => rfl) ?_
  refine rn_aload_n dX11_wire_0 rfl ?_
  refine rn_aload_n dX11_wire_1 rfl ?_
  refine rnT_get (i := 0) hG dX11_wire_2 fo_X11_55 rfl rfl ?_
  refine rn_iconst (v := 1) dX11_wire_5 rfl ?_
  refine rn_callV dX11_wire_6 cv_X11_59 (c_X11_start_0 hG) rfl (gt_at (i := 0) hG rfl) rfl rfl (by decide) (by decide) rfl (Nat.le_of_ble_eq_true rfl) ?_
  refine rn_if_ne (tgt := 48) dX11_wire_9 rfl (fun q => absurd q (by decide)) (fun _ => ?_)
  refine rn_aload_n dX11_wire_12 rfl ?_
  refine rn_aload_n dX11_wire_13 rfl ?_
  refine rn_iload_n dX11_wire_14 rfl ?_
  refine rn_callV dX11_wire_15 cv_X11_66 (c_X11_isNoNode hG) rfl (gt_at (i := 0) hG rfl) rfl rfl (by decide) (by decide) rfl (Nat.le_of_ble_eq_true rfl) ?_
  refine rn_iconst (v := 2) dX11_wire_18 rfl ?_
  refine rn_callV dX11_wire_19 cv_X11_33 (c_X11_refuse_1 hG (by decide)) rfl (gt_at (i := 0) hG rfl) rfl rfl (by decide) (by decide) rfl (Nat.le_of_ble_eq_true rfl) ?_
  refine rn_if_ne (tgt := 48) dX11_wire_22 rfl (fun _ => ?_) (fun q => absurd q (by decide))
  refine rn_iconst (v := 0) dX11_wire_48 rfl ?_
  exact rn_ret dX11_wire_49 trivial rfl
set_option maxRecDepth 20000 in
theorem c_X11_skew {a b t : Int32} (hG : G.length = 84) (hU : U.length = u)  : Cn l D ad tc L xs mX11_skew 6 500 [.ref 85, .int a, .int b] (G ++ (mdl (j_a0 D) t 0 0 ++ U), sl) (some (.int 0)) (G ++ (mdl (j_a0 D) 2 0 0 ++ U), sl) := by
  refine cn_of (lv0 := [(0, .ref 85), (1, .int a), (2, .int b)]) (by decide +kernel) ⟨_, rfl, rfl⟩ (fun _ => by simp [lg_sl, j_v, Value.category]) (fun _ => rfl) ?_
  refine rn_aload_n dX11_skew_0 rfl ?_
  refine rn_aload_n dX11_skew_1 rfl ?_
  refine rnT_get (i := 0) hG dX11_skew_2 fo_X11_55 rfl rfl ?_
  refine rn_iconst (v := 1) dX11_skew_5 rfl ?_
  refine rn_callV dX11_skew_6 cv_X11_59 (c_X11_start_0 hG) rfl (gt_at (i := 0) hG rfl) rfl rfl (by decide) (by decide) rfl (Nat.le_of_ble_eq_true rfl) ?_
  refine rn_if_ne (tgt := 68) dX11_skew_9 rfl (fun q => absurd q (by decide)) (fun _ => ?_)
  refine rn_aload_n dX11_skew_12 rfl ?_
  refine rn_aload_n dX11_skew_13 rfl ?_
  refine rn_iload_n dX11_skew_14 rfl ?_
  refine rn_callV dX11_skew_15 cv_X11_66 (c_X11_isNoNode hG) rfl (gt_at (i := 0) hG rfl) rfl rfl (by decide) (by decide) rfl (Nat.le_of_ble_eq_true rfl) ?_
  refine rn_iconst (v := 2) dX11_skew_18 rfl ?_
  refine rn_callV dX11_skew_19 cv_X11_33 (c_X11_refuse_1 hG (by decide)) rfl (gt_at (i := 0) hG rfl) rfl rfl (by decide) (by decide) rfl (Nat.le_of_ble_eq_true rfl) ?_
  refine rn_if_ne (tgt := 68) dX11_skew_22 rfl (fun _ => ?_) (fun q => absurd q (by decide))
  refine rn_iconst (v := 0) dX11_skew_68 rfl ?_
  exact rn_ret dX11_skew_69 trivial rfl
set_option maxRecDepth 20000 in
theorem c_X11_node_0 {a b c d t : Int32} (hG : G.length = 84) (hU : U.length = u)  : Cn l D ad tc L xs mX11_node 6 500 [.ref 85, .int 0, .int b, .int c, .int d] (G ++ (mdl (j_a0 D) t 0 0 ++ U), sl) (some (.int 0)) (G ++ (mdl (j_a0 D) 2 0 0 ++ U), sl) := by
  refine cn_of (lv0 := [(0, .ref 85), (1, .int 0), (2, .int b), (3, .int c), (4, .int d)]) (by decide +kernel) ⟨_, rfl, rfl⟩ (fun _ => by simp [lg_sl, j_v, Value.category]) (fun _ => rfl) ?_
  refine rn_iload_n dX11_node_0 rfl ?_
  refine rn_iconst (v := 3) dX11_node_1 rfl ?_
  refine rn_iconst (v := 5) dX11_node_2 rfl ?_
  refine rn_callS dX11_node_3 cs_X11_41 c_X11_isIn rfl (by decide) (by decide) rfl (Nat.le_of_ble_eq_true rfl) ?_
  refine rn_topi (y := 0) (by decide) ?_
  refine rn_istore dX11_node_6 (by decide) rfl ?_
  refine rn_iload dX11_node_8 rfl ?_
  refine rn_if_ne (tgt := 34) dX11_node_10 rfl (fun q => absurd q (by decide)) (fun _ => ?_)
  refine rn_iload_n dX11_node_13 rfl ?_
  refine rn_iconst (v := 1) dX11_node_14 rfl ?_
  refine rn_iconst (v := 2) dX11_node_15 rfl ?_
  refine rn_callS dX11_node_16 cs_X11_41 c_X11_isIn rfl (by decide) (by decide) rfl (Nat.le_of_ble_eq_true rfl) ?_
  refine rn_topi (y := 0) (by decide) ?_
  refine rn_if_ne (tgt := 34) dX11_node_19 rfl (fun q => absurd q (by decide)) (fun _ => ?_)
  refine rn_iload_n dX11_node_22 rfl ?_
  refine rn_bipush (v := 7) dX11_node_23 rfl ?_
  refine rn_icmp_eq (tgt := 34) dX11_node_25 rfl (fun q => absurd q (by decide)) (fun _ => ?_)
  refine rn_iload_n dX11_node_28 rfl ?_
  refine rn_bipush (v := 8) dX11_node_29 rfl ?_
  refine rn_icmp_ne (tgt := 38) dX11_node_31 rfl (fun _ => ?_) (fun q => absurd q (by decide))
  refine rn_iconst (v := 0) dX11_node_38 rfl ?_
  refine rn_istore dX11_node_39 (by decide) rfl ?_
  refine rn_iload_n dX11_node_41 rfl ?_
  refine rn_if_eq (tgt := 56) dX11_node_42 rfl (fun _ => ?_) (fun q => absurd (by decide) q)
  refine rn_iconst (v := 1) dX11_node_56 rfl ?_
  refine rn_goto (tgt := 61) dX11_node_57 rfl ?_
  refine rn_istore dX11_node_61 (by decide) rfl ?_
  refine rn_aload_n dX11_node_63 rfl ?_
  refine rn_aload_n dX11_node_64 rfl ?_
  refine rnT_get (i := 0) hG dX11_node_65 fo_X11_55 rfl rfl ?_
  refine rn_if_ne (tgt := 83) dX11_node_68 rfl (fun q => absurd q (by decide)) (fun _ => ?_)
  refine rn_aload_n dX11_node_71 rfl ?_
  refine rnT_get (i := 0) hG dX11_node_72 fo_X11_19 rfl rfl ?_
  refine rn_callV dX11_node_75 cv_X11_37 (c_AL_size (i := 87) (gt_at (i := 3) hG rfl)) rfl (gt_at (i := 3) hG rfl) rfl rfl (by decide) (by decide) rfl (Nat.le_of_ble_eq_true rfl) ?_
  refine rn_bipush (v := 16) dX11_node_78 rfl ?_
  refine rn_icmp_ne (tgt := 87) dX11_node_80 rfl (fun _ => ?_) (fun q => absurd q (by decide))
  refine rn_iconst (v := 0) dX11_node_87 rfl ?_
  refine rn_iconst (v := 1) dX11_node_88 rfl ?_
  refine rn_callV dX11_node_89 cv_X11_59 (c_X11_start_0 hG) rfl (gt_at (i := 0) hG rfl) rfl rfl (by decide) (by decide) rfl (Nat.le_of_ble_eq_true rfl) ?_
  refine rn_if_ne (tgt := 148) dX11_node_92 rfl (fun q => absurd q (by decide)) (fun _ => ?_)
  refine rn_aload_n dX11_node_95 rfl ?_
  refine rn_iload dX11_node_96 rfl ?_
  refine rn_if_eq (tgt := 109) dX11_node_98 rfl (fun _ => ?_) (fun q => absurd (by decide) q)
  refine rn_iload dX11_node_109 rfl ?_
  refine rn_if_eq (tgt := 122) dX11_node_111 rfl (fun _ => ?_) (fun q => absurd (by decide) q)
  refine rn_iload dX11_node_122 rfl ?_
  refine rn_if_eq (tgt := 140) dX11_node_124 rfl (fun q => absurd q (by decide)) (fun _ => ?_)
  refine rn_aload_n dX11_node_127 rfl ?_
  refine rn_iload dX11_node_128 rfl ?_
  refine rn_callV dX11_node_130 cv_X11_62 (c_X11_isNoClock hG) rfl (gt_at (i := 0) hG rfl) rfl rfl (by decide) (by decide) rfl (Nat.le_of_ble_eq_true rfl) ?_
  refine rn_if_eq (tgt := 140) dX11_node_133 rfl (fun q => absurd q (by decide)) (fun _ => ?_)
  refine rn_iconst (v := 1) dX11_node_136 rfl ?_
  refine rn_goto (tgt := 141) dX11_node_137 rfl ?_
  refine rn_iconst (v := 2) dX11_node_141 rfl ?_
  refine rn_callV dX11_node_142 cv_X11_33 (c_X11_refuse_1 hG (by decide)) rfl (gt_at (i := 0) hG rfl) rfl rfl (by decide) (by decide) rfl (Nat.le_of_ble_eq_true rfl) ?_
  refine rn_if_eq (tgt := 150) dX11_node_145 rfl (fun q => absurd q (by decide)) (fun _ => ?_)
  refine rn_iconst (v := 0) dX11_node_148 rfl ?_
  exact rn_ret dX11_node_149 trivial rfl
set_option maxRecDepth 20000 in
theorem c_X11_node_1 {a b c d t : Int32} (hG : G.length = 84) (hU : U.length = u)  : Cn l D ad tc L xs mX11_node 6 500 [.ref 85, .int 1, .int b, .int c, .int d] (G ++ (mdl (j_a0 D) t 0 0 ++ U), sl) (some (.int 0)) (G ++ (mdl (j_a0 D) 2 0 0 ++ U), sl) := by
  refine cn_of (lv0 := [(0, .ref 85), (1, .int 1), (2, .int b), (3, .int c), (4, .int d)]) (by decide +kernel) ⟨_, rfl, rfl⟩ (fun _ => by simp [lg_sl, j_v, Value.category]) (fun _ => rfl) ?_
  refine rn_iload_n dX11_node_0 rfl ?_
  refine rn_iconst (v := 3) dX11_node_1 rfl ?_
  refine rn_iconst (v := 5) dX11_node_2 rfl ?_
  refine rn_callS dX11_node_3 cs_X11_41 c_X11_isIn rfl (by decide) (by decide) rfl (Nat.le_of_ble_eq_true rfl) ?_
  refine rn_topi (y := 0) (by decide) ?_
  refine rn_istore dX11_node_6 (by decide) rfl ?_
  refine rn_iload dX11_node_8 rfl ?_
  refine rn_if_ne (tgt := 34) dX11_node_10 rfl (fun q => absurd q (by decide)) (fun _ => ?_)
  refine rn_iload_n dX11_node_13 rfl ?_
  refine rn_iconst (v := 1) dX11_node_14 rfl ?_
  refine rn_iconst (v := 2) dX11_node_15 rfl ?_
  refine rn_callS dX11_node_16 cs_X11_41 c_X11_isIn rfl (by decide) (by decide) rfl (Nat.le_of_ble_eq_true rfl) ?_
  refine rn_topi (y := 1) (by decide) ?_
  refine rn_if_ne (tgt := 34) dX11_node_19 rfl (fun _ => ?_) (fun q => absurd q (by decide))
  refine rn_iconst (v := 1) dX11_node_34 rfl ?_
  refine rn_goto (tgt := 39) dX11_node_35 rfl ?_
  refine rn_istore dX11_node_39 (by decide) rfl ?_
  refine rn_iload_n dX11_node_41 rfl ?_
  refine rn_if_eq (tgt := 56) dX11_node_42 rfl (fun q => absurd q (by decide)) (fun _ => ?_)
  refine rn_iload_n dX11_node_45 rfl ?_
  refine rn_bipush (v := 6) dX11_node_46 rfl ?_
  refine rn_bipush (v := 8) dX11_node_48 rfl ?_
  refine rn_callS dX11_node_50 cs_X11_41 c_X11_isIn rfl (by decide) (by decide) rfl (Nat.le_of_ble_eq_true rfl) ?_
  refine rn_topi (y := 0) (by decide) ?_
  refine rn_if_eq (tgt := 60) dX11_node_53 rfl (fun _ => ?_) (fun q => absurd (by decide) q)
  refine rn_iconst (v := 0) dX11_node_60 rfl ?_
  refine rn_istore dX11_node_61 (by decide) rfl ?_
  refine rn_aload_n dX11_node_63 rfl ?_
  refine rn_aload_n dX11_node_64 rfl ?_
  refine rnT_get (i := 0) hG dX11_node_65 fo_X11_55 rfl rfl ?_
  refine rn_if_ne (tgt := 83) dX11_node_68 rfl (fun q => absurd q (by decide)) (fun _ => ?_)
  refine rn_aload_n dX11_node_71 rfl ?_
  refine rnT_get (i := 0) hG dX11_node_72 fo_X11_19 rfl rfl ?_
  refine rn_callV dX11_node_75 cv_X11_37 (c_AL_size (i := 87) (gt_at (i := 3) hG rfl)) rfl (gt_at (i := 3) hG rfl) rfl rfl (by decide) (by decide) rfl (Nat.le_of_ble_eq_true rfl) ?_
  refine rn_bipush (v := 16) dX11_node_78 rfl ?_
  refine rn_icmp_ne (tgt := 87) dX11_node_80 rfl (fun _ => ?_) (fun q => absurd q (by decide))
  refine rn_iconst (v := 0) dX11_node_87 rfl ?_
  refine rn_iconst (v := 1) dX11_node_88 rfl ?_
  refine rn_callV dX11_node_89 cv_X11_59 (c_X11_start_0 hG) rfl (gt_at (i := 0) hG rfl) rfl rfl (by decide) (by decide) rfl (Nat.le_of_ble_eq_true rfl) ?_
  refine rn_if_ne (tgt := 148) dX11_node_92 rfl (fun q => absurd q (by decide)) (fun _ => ?_)
  refine rn_aload_n dX11_node_95 rfl ?_
  refine rn_iload dX11_node_96 rfl ?_
  refine rn_if_eq (tgt := 109) dX11_node_98 rfl (fun q => absurd q (by decide)) (fun _ => ?_)
  refine rn_aload_n dX11_node_101 rfl ?_
  refine rn_iload_n dX11_node_102 rfl ?_
  refine rn_callV dX11_node_103 cv_X11_66 (c_X11_isNoNode hG) rfl (gt_at (i := 0) hG rfl) rfl rfl (by decide) (by decide) rfl (Nat.le_of_ble_eq_true rfl) ?_
  refine rn_if_ne (tgt := 136) dX11_node_106 rfl (fun _ => ?_) (fun q => absurd q (by decide))
  refine rn_iconst (v := 1) dX11_node_136 rfl ?_
  refine rn_goto (tgt := 141) dX11_node_137 rfl ?_
  refine rn_iconst (v := 2) dX11_node_141 rfl ?_
  refine rn_callV dX11_node_142 cv_X11_33 (c_X11_refuse_1 hG (by decide)) rfl (gt_at (i := 0) hG rfl) rfl rfl (by decide) (by decide) rfl (Nat.le_of_ble_eq_true rfl) ?_
  refine rn_if_eq (tgt := 150) dX11_node_145 rfl (fun q => absurd q (by decide)) (fun _ => ?_)
  refine rn_iconst (v := 0) dX11_node_148 rfl ?_
  exact rn_ret dX11_node_149 trivial rfl
set_option maxRecDepth 20000 in
theorem c_X11_node_2 {a b c d t : Int32} (hG : G.length = 84) (hU : U.length = u)  : Cn l D ad tc L xs mX11_node 6 500 [.ref 85, .int 2, .int b, .int c, .int d] (G ++ (mdl (j_a0 D) t 0 0 ++ U), sl) (some (.int 0)) (G ++ (mdl (j_a0 D) 2 0 0 ++ U), sl) := by
  refine cn_of (lv0 := [(0, .ref 85), (1, .int 2), (2, .int b), (3, .int c), (4, .int d)]) (by decide +kernel) ⟨_, rfl, rfl⟩ (fun _ => by simp [lg_sl, j_v, Value.category]) (fun _ => rfl) ?_
  refine rn_iload_n dX11_node_0 rfl ?_
  refine rn_iconst (v := 3) dX11_node_1 rfl ?_
  refine rn_iconst (v := 5) dX11_node_2 rfl ?_
  refine rn_callS dX11_node_3 cs_X11_41 c_X11_isIn rfl (by decide) (by decide) rfl (Nat.le_of_ble_eq_true rfl) ?_
  refine rn_topi (y := 0) (by decide) ?_
  refine rn_istore dX11_node_6 (by decide) rfl ?_
  refine rn_iload dX11_node_8 rfl ?_
  refine rn_if_ne (tgt := 34) dX11_node_10 rfl (fun q => absurd q (by decide)) (fun _ => ?_)
  refine rn_iload_n dX11_node_13 rfl ?_
  refine rn_iconst (v := 1) dX11_node_14 rfl ?_
  refine rn_iconst (v := 2) dX11_node_15 rfl ?_
  refine rn_callS dX11_node_16 cs_X11_41 c_X11_isIn rfl (by decide) (by decide) rfl (Nat.le_of_ble_eq_true rfl) ?_
  refine rn_topi (y := 1) (by decide) ?_
  refine rn_if_ne (tgt := 34) dX11_node_19 rfl (fun _ => ?_) (fun q => absurd q (by decide))
  refine rn_iconst (v := 1) dX11_node_34 rfl ?_
  refine rn_goto (tgt := 39) dX11_node_35 rfl ?_
  refine rn_istore dX11_node_39 (by decide) rfl ?_
  refine rn_iload_n dX11_node_41 rfl ?_
  refine rn_if_eq (tgt := 56) dX11_node_42 rfl (fun q => absurd q (by decide)) (fun _ => ?_)
  refine rn_iload_n dX11_node_45 rfl ?_
  refine rn_bipush (v := 6) dX11_node_46 rfl ?_
  refine rn_bipush (v := 8) dX11_node_48 rfl ?_
  refine rn_callS dX11_node_50 cs_X11_41 c_X11_isIn rfl (by decide) (by decide) rfl (Nat.le_of_ble_eq_true rfl) ?_
  refine rn_topi (y := 0) (by decide) ?_
  refine rn_if_eq (tgt := 60) dX11_node_53 rfl (fun _ => ?_) (fun q => absurd (by decide) q)
  refine rn_iconst (v := 0) dX11_node_60 rfl ?_
  refine rn_istore dX11_node_61 (by decide) rfl ?_
  refine rn_aload_n dX11_node_63 rfl ?_
  refine rn_aload_n dX11_node_64 rfl ?_
  refine rnT_get (i := 0) hG dX11_node_65 fo_X11_55 rfl rfl ?_
  refine rn_if_ne (tgt := 83) dX11_node_68 rfl (fun q => absurd q (by decide)) (fun _ => ?_)
  refine rn_aload_n dX11_node_71 rfl ?_
  refine rnT_get (i := 0) hG dX11_node_72 fo_X11_19 rfl rfl ?_
  refine rn_callV dX11_node_75 cv_X11_37 (c_AL_size (i := 87) (gt_at (i := 3) hG rfl)) rfl (gt_at (i := 3) hG rfl) rfl rfl (by decide) (by decide) rfl (Nat.le_of_ble_eq_true rfl) ?_
  refine rn_bipush (v := 16) dX11_node_78 rfl ?_
  refine rn_icmp_ne (tgt := 87) dX11_node_80 rfl (fun _ => ?_) (fun q => absurd q (by decide))
  refine rn_iconst (v := 0) dX11_node_87 rfl ?_
  refine rn_iconst (v := 1) dX11_node_88 rfl ?_
  refine rn_callV dX11_node_89 cv_X11_59 (c_X11_start_0 hG) rfl (gt_at (i := 0) hG rfl) rfl rfl (by decide) (by decide) rfl (Nat.le_of_ble_eq_true rfl) ?_
  refine rn_if_ne (tgt := 148) dX11_node_92 rfl (fun q => absurd q (by decide)) (fun _ => ?_)
  refine rn_aload_n dX11_node_95 rfl ?_
  refine rn_iload dX11_node_96 rfl ?_
  refine rn_if_eq (tgt := 109) dX11_node_98 rfl (fun q => absurd q (by decide)) (fun _ => ?_)
  refine rn_aload_n dX11_node_101 rfl ?_
  refine rn_iload_n dX11_node_102 rfl ?_
  refine rn_callV dX11_node_103 cv_X11_66 (c_X11_isNoNode hG) rfl (gt_at (i := 0) hG rfl) rfl rfl (by decide) (by decide) rfl (Nat.le_of_ble_eq_true rfl) ?_
  refine rn_if_ne (tgt := 136) dX11_node_106 rfl (fun _ => ?_) (fun q => absurd q (by decide))
  refine rn_iconst (v := 1) dX11_node_136 rfl ?_
  refine rn_goto (tgt := 141) dX11_node_137 rfl ?_
  refine rn_iconst (v := 2) dX11_node_141 rfl ?_
  refine rn_callV dX11_node_142 cv_X11_33 (c_X11_refuse_1 hG (by decide)) rfl (gt_at (i := 0) hG rfl) rfl rfl (by decide) (by decide) rfl (Nat.le_of_ble_eq_true rfl) ?_
  refine rn_if_eq (tgt := 150) dX11_node_145 rfl (fun q => absurd q (by decide)) (fun _ => ?_)
  refine rn_iconst (v := 0) dX11_node_148 rfl ?_
  exact rn_ret dX11_node_149 trivial rfl
set_option maxRecDepth 20000 in
theorem c_X11_node_3 {a b c d t : Int32} (hG : G.length = 84) (hU : U.length = u)  : Cn l D ad tc L xs mX11_node 6 500 [.ref 85, .int 3, .int b, .int c, .int d] (G ++ (mdl (j_a0 D) t 0 0 ++ U), sl) (some (.int 0)) (G ++ (mdl (j_a0 D) 2 0 0 ++ U), sl) := by
  refine cn_of (lv0 := [(0, .ref 85), (1, .int 3), (2, .int b), (3, .int c), (4, .int d)]) (by decide +kernel) ⟨_, rfl, rfl⟩ (fun _ => by simp [lg_sl, j_v, Value.category]) (fun _ => rfl) ?_
  refine rn_iload_n dX11_node_0 rfl ?_
  refine rn_iconst (v := 3) dX11_node_1 rfl ?_
  refine rn_iconst (v := 5) dX11_node_2 rfl ?_
  refine rn_callS dX11_node_3 cs_X11_41 c_X11_isIn rfl (by decide) (by decide) rfl (Nat.le_of_ble_eq_true rfl) ?_
  refine rn_topi (y := 1) (by decide) ?_
  refine rn_istore dX11_node_6 (by decide) rfl ?_
  refine rn_iload dX11_node_8 rfl ?_
  refine rn_if_ne (tgt := 34) dX11_node_10 rfl (fun _ => ?_) (fun q => absurd q (by decide))
  refine rn_iconst (v := 1) dX11_node_34 rfl ?_
  refine rn_goto (tgt := 39) dX11_node_35 rfl ?_
  refine rn_istore dX11_node_39 (by decide) rfl ?_
  refine rn_iload_n dX11_node_41 rfl ?_
  refine rn_if_eq (tgt := 56) dX11_node_42 rfl (fun q => absurd q (by decide)) (fun _ => ?_)
  refine rn_iload_n dX11_node_45 rfl ?_
  refine rn_bipush (v := 6) dX11_node_46 rfl ?_
  refine rn_bipush (v := 8) dX11_node_48 rfl ?_
  refine rn_callS dX11_node_50 cs_X11_41 c_X11_isIn rfl (by decide) (by decide) rfl (Nat.le_of_ble_eq_true rfl) ?_
  refine rn_topi (y := 0) (by decide) ?_
  refine rn_if_eq (tgt := 60) dX11_node_53 rfl (fun _ => ?_) (fun q => absurd (by decide) q)
  refine rn_iconst (v := 0) dX11_node_60 rfl ?_
  refine rn_istore dX11_node_61 (by decide) rfl ?_
  refine rn_aload_n dX11_node_63 rfl ?_
  refine rn_aload_n dX11_node_64 rfl ?_
  refine rnT_get (i := 0) hG dX11_node_65 fo_X11_55 rfl rfl ?_
  refine rn_if_ne (tgt := 83) dX11_node_68 rfl (fun q => absurd q (by decide)) (fun _ => ?_)
  refine rn_aload_n dX11_node_71 rfl ?_
  refine rnT_get (i := 0) hG dX11_node_72 fo_X11_19 rfl rfl ?_
  refine rn_callV dX11_node_75 cv_X11_37 (c_AL_size (i := 87) (gt_at (i := 3) hG rfl)) rfl (gt_at (i := 3) hG rfl) rfl rfl (by decide) (by decide) rfl (Nat.le_of_ble_eq_true rfl) ?_
  refine rn_bipush (v := 16) dX11_node_78 rfl ?_
  refine rn_icmp_ne (tgt := 87) dX11_node_80 rfl (fun _ => ?_) (fun q => absurd q (by decide))
  refine rn_iconst (v := 0) dX11_node_87 rfl ?_
  refine rn_iconst (v := 1) dX11_node_88 rfl ?_
  refine rn_callV dX11_node_89 cv_X11_59 (c_X11_start_0 hG) rfl (gt_at (i := 0) hG rfl) rfl rfl (by decide) (by decide) rfl (Nat.le_of_ble_eq_true rfl) ?_
  refine rn_if_ne (tgt := 148) dX11_node_92 rfl (fun q => absurd q (by decide)) (fun _ => ?_)
  refine rn_aload_n dX11_node_95 rfl ?_
  refine rn_iload dX11_node_96 rfl ?_
  refine rn_if_eq (tgt := 109) dX11_node_98 rfl (fun q => absurd q (by decide)) (fun _ => ?_)
  refine rn_aload_n dX11_node_101 rfl ?_
  refine rn_iload_n dX11_node_102 rfl ?_
  refine rn_callV dX11_node_103 cv_X11_66 (c_X11_isNoNode hG) rfl (gt_at (i := 0) hG rfl) rfl rfl (by decide) (by decide) rfl (Nat.le_of_ble_eq_true rfl) ?_
  refine rn_if_ne (tgt := 136) dX11_node_106 rfl (fun _ => ?_) (fun q => absurd q (by decide))
  refine rn_iconst (v := 1) dX11_node_136 rfl ?_
  refine rn_goto (tgt := 141) dX11_node_137 rfl ?_
  refine rn_iconst (v := 2) dX11_node_141 rfl ?_
  refine rn_callV dX11_node_142 cv_X11_33 (c_X11_refuse_1 hG (by decide)) rfl (gt_at (i := 0) hG rfl) rfl rfl (by decide) (by decide) rfl (Nat.le_of_ble_eq_true rfl) ?_
  refine rn_if_eq (tgt := 150) dX11_node_145 rfl (fun q => absurd q (by decide)) (fun _ => ?_)
  refine rn_iconst (v := 0) dX11_node_148 rfl ?_
  exact rn_ret dX11_node_149 trivial rfl
set_option maxRecDepth 20000 in
theorem c_X11_node_4 {a b c d t : Int32} (hG : G.length = 84) (hU : U.length = u)  : Cn l D ad tc L xs mX11_node 6 500 [.ref 85, .int 4, .int b, .int c, .int d] (G ++ (mdl (j_a0 D) t 0 0 ++ U), sl) (some (.int 0)) (G ++ (mdl (j_a0 D) 2 0 0 ++ U), sl) := by
  refine cn_of (lv0 := [(0, .ref 85), (1, .int 4), (2, .int b), (3, .int c), (4, .int d)]) (by decide +kernel) ⟨_, rfl, rfl⟩ (fun _ => by simp [lg_sl, j_v, Value.category]) (fun _ => rfl) ?_
  refine rn_iload_n dX11_node_0 rfl ?_
  refine rn_iconst (v := 3) dX11_node_1 rfl ?_
  refine rn_iconst (v := 5) dX11_node_2 rfl ?_
  refine rn_callS dX11_node_3 cs_X11_41 c_X11_isIn rfl (by decide) (by decide) rfl (Nat.le_of_ble_eq_true rfl) ?_
  refine rn_topi (y := 1) (by decide) ?_
  refine rn_istore dX11_node_6 (by decide) rfl ?_
  refine rn_iload dX11_node_8 rfl ?_
  refine rn_if_ne (tgt := 34) dX11_node_10 rfl (fun _ => ?_) (fun q => absurd q (by decide))
  refine rn_iconst (v := 1) dX11_node_34 rfl ?_
  refine rn_goto (tgt := 39) dX11_node_35 rfl ?_
  refine rn_istore dX11_node_39 (by decide) rfl ?_
  refine rn_iload_n dX11_node_41 rfl ?_
  refine rn_if_eq (tgt := 56) dX11_node_42 rfl (fun q => absurd q (by decide)) (fun _ => ?_)
  refine rn_iload_n dX11_node_45 rfl ?_
  refine rn_bipush (v := 6) dX11_node_46 rfl ?_
  refine rn_bipush (v := 8) dX11_node_48 rfl ?_
  refine rn_callS dX11_node_50 cs_X11_41 c_X11_isIn rfl (by decide) (by decide) rfl (Nat.le_of_ble_eq_true rfl) ?_
  refine rn_topi (y := 0) (by decide) ?_
  refine rn_if_eq (tgt := 60) dX11_node_53 rfl (fun _ => ?_) (fun q => absurd (by decide) q)
  refine rn_iconst (v := 0) dX11_node_60 rfl ?_
  refine rn_istore dX11_node_61 (by decide) rfl ?_
  refine rn_aload_n dX11_node_63 rfl ?_
  refine rn_aload_n dX11_node_64 rfl ?_
  refine rnT_get (i := 0) hG dX11_node_65 fo_X11_55 rfl rfl ?_
  refine rn_if_ne (tgt := 83) dX11_node_68 rfl (fun q => absurd q (by decide)) (fun _ => ?_)
  refine rn_aload_n dX11_node_71 rfl ?_
  refine rnT_get (i := 0) hG dX11_node_72 fo_X11_19 rfl rfl ?_
  refine rn_callV dX11_node_75 cv_X11_37 (c_AL_size (i := 87) (gt_at (i := 3) hG rfl)) rfl (gt_at (i := 3) hG rfl) rfl rfl (by decide) (by decide) rfl (Nat.le_of_ble_eq_true rfl) ?_
  refine rn_bipush (v := 16) dX11_node_78 rfl ?_
  refine rn_icmp_ne (tgt := 87) dX11_node_80 rfl (fun _ => ?_) (fun q => absurd q (by decide))
  refine rn_iconst (v := 0) dX11_node_87 rfl ?_
  refine rn_iconst (v := 1) dX11_node_88 rfl ?_
  refine rn_callV dX11_node_89 cv_X11_59 (c_X11_start_0 hG) rfl (gt_at (i := 0) hG rfl) rfl rfl (by decide) (by decide) rfl (Nat.le_of_ble_eq_true rfl) ?_
  refine rn_if_ne (tgt := 148) dX11_node_92 rfl (fun q => absurd q (by decide)) (fun _ => ?_)
  refine rn_aload_n dX11_node_95 rfl ?_
  refine rn_iload dX11_node_96 rfl ?_
  refine rn_if_eq (tgt := 109) dX11_node_98 rfl (fun q => absurd q (by decide)) (fun _ => ?_)
  refine rn_aload_n dX11_node_101 rfl ?_
  refine rn_iload_n dX11_node_102 rfl ?_
  refine rn_callV dX11_node_103 cv_X11_66 (c_X11_isNoNode hG) rfl (gt_at (i := 0) hG rfl) rfl rfl (by decide) (by decide) rfl (Nat.le_of_ble_eq_true rfl) ?_
  refine rn_if_ne (tgt := 136) dX11_node_106 rfl (fun _ => ?_) (fun q => absurd q (by decide))
  refine rn_iconst (v := 1) dX11_node_136 rfl ?_
  refine rn_goto (tgt := 141) dX11_node_137 rfl ?_
  refine rn_iconst (v := 2) dX11_node_141 rfl ?_
  refine rn_callV dX11_node_142 cv_X11_33 (c_X11_refuse_1 hG (by decide)) rfl (gt_at (i := 0) hG rfl) rfl rfl (by decide) (by decide) rfl (Nat.le_of_ble_eq_true rfl) ?_
  refine rn_if_eq (tgt := 150) dX11_node_145 rfl (fun q => absurd q (by decide)) (fun _ => ?_)
  refine rn_iconst (v := 0) dX11_node_148 rfl ?_
  exact rn_ret dX11_node_149 trivial rfl
set_option maxRecDepth 20000 in
theorem c_X11_node_5 {a b c d t : Int32} (hG : G.length = 84) (hU : U.length = u)  : Cn l D ad tc L xs mX11_node 6 500 [.ref 85, .int 5, .int b, .int c, .int d] (G ++ (mdl (j_a0 D) t 0 0 ++ U), sl) (some (.int 0)) (G ++ (mdl (j_a0 D) 2 0 0 ++ U), sl) := by
  refine cn_of (lv0 := [(0, .ref 85), (1, .int 5), (2, .int b), (3, .int c), (4, .int d)]) (by decide +kernel) ⟨_, rfl, rfl⟩ (fun _ => by simp [lg_sl, j_v, Value.category]) (fun _ => rfl) ?_
  refine rn_iload_n dX11_node_0 rfl ?_
  refine rn_iconst (v := 3) dX11_node_1 rfl ?_
  refine rn_iconst (v := 5) dX11_node_2 rfl ?_
  refine rn_callS dX11_node_3 cs_X11_41 c_X11_isIn rfl (by decide) (by decide) rfl (Nat.le_of_ble_eq_true rfl) ?_
  refine rn_topi (y := 1) (by decide) ?_
  refine rn_istore dX11_node_6 (by decide) rfl ?_
  refine rn_iload dX11_node_8 rfl ?_
  refine rn_if_ne (tgt := 34) dX11_node_10 rfl (fun _ => ?_) (fun q => absurd q (by decide))
  refine rn_iconst (v := 1) dX11_node_34 rfl ?_
  refine rn_goto (tgt := 39) dX11_node_35 rfl ?_
  refine rn_istore dX11_node_39 (by decide) rfl ?_
  refine rn_iload_n dX11_node_41 rfl ?_
  refine rn_if_eq (tgt := 56) dX11_node_42 rfl (fun q => absurd q (by decide)) (fun _ => ?_)
  refine rn_iload_n dX11_node_45 rfl ?_
  refine rn_bipush (v := 6) dX11_node_46 rfl ?_
  refine rn_bipush (v := 8) dX11_node_48 rfl ?_
  refine rn_callS dX11_node_50 cs_X11_41 c_X11_isIn rfl (by decide) (by decide) rfl (Nat.le_of_ble_eq_true rfl) ?_
  refine rn_topi (y := 0) (by decide) ?_
  refine rn_if_eq (tgt := 60) dX11_node_53 rfl (fun _ => ?_) (fun q => absurd (by decide) q)
  refine rn_iconst (v := 0) dX11_node_60 rfl ?_
  refine rn_istore dX11_node_61 (by decide) rfl ?_
  refine rn_aload_n dX11_node_63 rfl ?_
  refine rn_aload_n dX11_node_64 rfl ?_
  refine rnT_get (i := 0) hG dX11_node_65 fo_X11_55 rfl rfl ?_
  refine rn_if_ne (tgt := 83) dX11_node_68 rfl (fun q => absurd q (by decide)) (fun _ => ?_)
  refine rn_aload_n dX11_node_71 rfl ?_
  refine rnT_get (i := 0) hG dX11_node_72 fo_X11_19 rfl rfl ?_
  refine rn_callV dX11_node_75 cv_X11_37 (c_AL_size (i := 87) (gt_at (i := 3) hG rfl)) rfl (gt_at (i := 3) hG rfl) rfl rfl (by decide) (by decide) rfl (Nat.le_of_ble_eq_true rfl) ?_
  refine rn_bipush (v := 16) dX11_node_78 rfl ?_
  refine rn_icmp_ne (tgt := 87) dX11_node_80 rfl (fun _ => ?_) (fun q => absurd q (by decide))
  refine rn_iconst (v := 0) dX11_node_87 rfl ?_
  refine rn_iconst (v := 1) dX11_node_88 rfl ?_
  refine rn_callV dX11_node_89 cv_X11_59 (c_X11_start_0 hG) rfl (gt_at (i := 0) hG rfl) rfl rfl (by decide) (by decide) rfl (Nat.le_of_ble_eq_true rfl) ?_
  refine rn_if_ne (tgt := 148) dX11_node_92 rfl (fun q => absurd q (by decide)) (fun _ => ?_)
  refine rn_aload_n dX11_node_95 rfl ?_
  refine rn_iload dX11_node_96 rfl ?_
  refine rn_if_eq (tgt := 109) dX11_node_98 rfl (fun q => absurd q (by decide)) (fun _ => ?_)
  refine rn_aload_n dX11_node_101 rfl ?_
  refine rn_iload_n dX11_node_102 rfl ?_
  refine rn_callV dX11_node_103 cv_X11_66 (c_X11_isNoNode hG) rfl (gt_at (i := 0) hG rfl) rfl rfl (by decide) (by decide) rfl (Nat.le_of_ble_eq_true rfl) ?_
  refine rn_if_ne (tgt := 136) dX11_node_106 rfl (fun _ => ?_) (fun q => absurd q (by decide))
  refine rn_iconst (v := 1) dX11_node_136 rfl ?_
  refine rn_goto (tgt := 141) dX11_node_137 rfl ?_
  refine rn_iconst (v := 2) dX11_node_141 rfl ?_
  refine rn_callV dX11_node_142 cv_X11_33 (c_X11_refuse_1 hG (by decide)) rfl (gt_at (i := 0) hG rfl) rfl rfl (by decide) (by decide) rfl (Nat.le_of_ble_eq_true rfl) ?_
  refine rn_if_eq (tgt := 150) dX11_node_145 rfl (fun q => absurd q (by decide)) (fun _ => ?_)
  refine rn_iconst (v := 0) dX11_node_148 rfl ?_
  exact rn_ret dX11_node_149 trivial rfl
set_option maxRecDepth 20000 in
theorem c_X11_node_6 {a b c d t : Int32} (hG : G.length = 84) (hU : U.length = u)  : Cn l D ad tc L xs mX11_node 6 500 [.ref 85, .int 6, .int b, .int c, .int d] (G ++ (mdl (j_a0 D) t 0 0 ++ U), sl) (some (.int 0)) (G ++ (mdl (j_a0 D) 2 0 0 ++ U), sl) := by
  refine cn_of (lv0 := [(0, .ref 85), (1, .int 6), (2, .int b), (3, .int c), (4, .int d)]) (by decide +kernel) ⟨_, rfl, rfl⟩ (fun _ => by simp [lg_sl, j_v, Value.category]) (fun _ => rfl) ?_
  refine rn_iload_n dX11_node_0 rfl ?_
  refine rn_iconst (v := 3) dX11_node_1 rfl ?_
  refine rn_iconst (v := 5) dX11_node_2 rfl ?_
  refine rn_callS dX11_node_3 cs_X11_41 c_X11_isIn rfl (by decide) (by decide) rfl (Nat.le_of_ble_eq_true rfl) ?_
  refine rn_topi (y := 0) (by decide) ?_
  refine rn_istore dX11_node_6 (by decide) rfl ?_
  refine rn_iload dX11_node_8 rfl ?_
  refine rn_if_ne (tgt := 34) dX11_node_10 rfl (fun q => absurd q (by decide)) (fun _ => ?_)
  refine rn_iload_n dX11_node_13 rfl ?_
  refine rn_iconst (v := 1) dX11_node_14 rfl ?_
  refine rn_iconst (v := 2) dX11_node_15 rfl ?_
  refine rn_callS dX11_node_16 cs_X11_41 c_X11_isIn rfl (by decide) (by decide) rfl (Nat.le_of_ble_eq_true rfl) ?_
  refine rn_topi (y := 0) (by decide) ?_
  refine rn_if_ne (tgt := 34) dX11_node_19 rfl (fun q => absurd q (by decide)) (fun _ => ?_)
  refine rn_iload_n dX11_node_22 rfl ?_
  refine rn_bipush (v := 7) dX11_node_23 rfl ?_
  refine rn_icmp_eq (tgt := 34) dX11_node_25 rfl (fun q => absurd q (by decide)) (fun _ => ?_)
  refine rn_iload_n dX11_node_28 rfl ?_
  refine rn_bipush (v := 8) dX11_node_29 rfl ?_
  refine rn_icmp_ne (tgt := 38) dX11_node_31 rfl (fun _ => ?_) (fun q => absurd q (by decide))
  refine rn_iconst (v := 0) dX11_node_38 rfl ?_
  refine rn_istore dX11_node_39 (by decide) rfl ?_
  refine rn_iload_n dX11_node_41 rfl ?_
  refine rn_if_eq (tgt := 56) dX11_node_42 rfl (fun q => absurd q (by decide)) (fun _ => ?_)
  refine rn_iload_n dX11_node_45 rfl ?_
  refine rn_bipush (v := 6) dX11_node_46 rfl ?_
  refine rn_bipush (v := 8) dX11_node_48 rfl ?_
  refine rn_callS dX11_node_50 cs_X11_41 c_X11_isIn rfl (by decide) (by decide) rfl (Nat.le_of_ble_eq_true rfl) ?_
  refine rn_topi (y := 1) (by decide) ?_
  refine rn_if_eq (tgt := 60) dX11_node_53 rfl (fun q => absurd q (by decide)) (fun _ => ?_)
  refine rn_iconst (v := 1) dX11_node_56 rfl ?_
  refine rn_goto (tgt := 61) dX11_node_57 rfl ?_
  refine rn_istore dX11_node_61 (by decide) rfl ?_
  refine rn_aload_n dX11_node_63 rfl ?_
  refine rn_aload_n dX11_node_64 rfl ?_
  refine rnT_get (i := 0) hG dX11_node_65 fo_X11_55 rfl rfl ?_
  refine rn_if_ne (tgt := 83) dX11_node_68 rfl (fun q => absurd q (by decide)) (fun _ => ?_)
  refine rn_aload_n dX11_node_71 rfl ?_
  refine rnT_get (i := 0) hG dX11_node_72 fo_X11_19 rfl rfl ?_
  refine rn_callV dX11_node_75 cv_X11_37 (c_AL_size (i := 87) (gt_at (i := 3) hG rfl)) rfl (gt_at (i := 3) hG rfl) rfl rfl (by decide) (by decide) rfl (Nat.le_of_ble_eq_true rfl) ?_
  refine rn_bipush (v := 16) dX11_node_78 rfl ?_
  refine rn_icmp_ne (tgt := 87) dX11_node_80 rfl (fun _ => ?_) (fun q => absurd q (by decide))
  refine rn_iconst (v := 0) dX11_node_87 rfl ?_
  refine rn_iconst (v := 1) dX11_node_88 rfl ?_
  refine rn_callV dX11_node_89 cv_X11_59 (c_X11_start_0 hG) rfl (gt_at (i := 0) hG rfl) rfl rfl (by decide) (by decide) rfl (Nat.le_of_ble_eq_true rfl) ?_
  refine rn_if_ne (tgt := 148) dX11_node_92 rfl (fun q => absurd q (by decide)) (fun _ => ?_)
  refine rn_aload_n dX11_node_95 rfl ?_
  refine rn_iload dX11_node_96 rfl ?_
  refine rn_if_eq (tgt := 109) dX11_node_98 rfl (fun _ => ?_) (fun q => absurd (by decide) q)
  refine rn_iload dX11_node_109 rfl ?_
  refine rn_if_eq (tgt := 122) dX11_node_111 rfl (fun _ => ?_) (fun q => absurd (by decide) q)
  refine rn_iload dX11_node_122 rfl ?_
  refine rn_if_eq (tgt := 140) dX11_node_124 rfl (fun q => absurd q (by decide)) (fun _ => ?_)
  refine rn_aload_n dX11_node_127 rfl ?_
  refine rn_iload dX11_node_128 rfl ?_
  refine rn_callV dX11_node_130 cv_X11_62 (c_X11_isNoClock hG) rfl (gt_at (i := 0) hG rfl) rfl rfl (by decide) (by decide) rfl (Nat.le_of_ble_eq_true rfl) ?_
  refine rn_if_eq (tgt := 140) dX11_node_133 rfl (fun q => absurd q (by decide)) (fun _ => ?_)
  refine rn_iconst (v := 1) dX11_node_136 rfl ?_
  refine rn_goto (tgt := 141) dX11_node_137 rfl ?_
  refine rn_iconst (v := 2) dX11_node_141 rfl ?_
  refine rn_callV dX11_node_142 cv_X11_33 (c_X11_refuse_1 hG (by decide)) rfl (gt_at (i := 0) hG rfl) rfl rfl (by decide) (by decide) rfl (Nat.le_of_ble_eq_true rfl) ?_
  refine rn_if_eq (tgt := 150) dX11_node_145 rfl (fun q => absurd q (by decide)) (fun _ => ?_)
  refine rn_iconst (v := 0) dX11_node_148 rfl ?_
  exact rn_ret dX11_node_149 trivial rfl
set_option maxRecDepth 20000 in
theorem c_X11_node_7 {a b c d t : Int32} (hG : G.length = 84) (hU : U.length = u)  : Cn l D ad tc L xs mX11_node 6 500 [.ref 85, .int 7, .int b, .int c, .int d] (G ++ (mdl (j_a0 D) t 0 0 ++ U), sl) (some (.int 0)) (G ++ (mdl (j_a0 D) 2 0 0 ++ U), sl) := by
  refine cn_of (lv0 := [(0, .ref 85), (1, .int 7), (2, .int b), (3, .int c), (4, .int d)]) (by decide +kernel) ⟨_, rfl, rfl⟩ (fun _ => by simp [lg_sl, j_v, Value.category]) (fun _ => rfl) ?_
  refine rn_iload_n dX11_node_0 rfl ?_
  refine rn_iconst (v := 3) dX11_node_1 rfl ?_
  refine rn_iconst (v := 5) dX11_node_2 rfl ?_
  refine rn_callS dX11_node_3 cs_X11_41 c_X11_isIn rfl (by decide) (by decide) rfl (Nat.le_of_ble_eq_true rfl) ?_
  refine rn_topi (y := 0) (by decide) ?_
  refine rn_istore dX11_node_6 (by decide) rfl ?_
  refine rn_iload dX11_node_8 rfl ?_
  refine rn_if_ne (tgt := 34) dX11_node_10 rfl (fun q => absurd q (by decide)) (fun _ => ?_)
  refine rn_iload_n dX11_node_13 rfl ?_
  refine rn_iconst (v := 1) dX11_node_14 rfl ?_
  refine rn_iconst (v := 2) dX11_node_15 rfl ?_
  refine rn_callS dX11_node_16 cs_X11_41 c_X11_isIn rfl (by decide) (by decide) rfl (Nat.le_of_ble_eq_true rfl) ?_
  refine rn_topi (y := 0) (by decide) ?_
  refine rn_if_ne (tgt := 34) dX11_node_19 rfl (fun q => absurd q (by decide)) (fun _ => ?_)
  refine rn_iload_n dX11_node_22 rfl ?_
  refine rn_bipush (v := 7) dX11_node_23 rfl ?_
  refine rn_icmp_eq (tgt := 34) dX11_node_25 rfl (fun _ => ?_) (fun q => absurd (by decide) q)
  refine rn_iconst (v := 1) dX11_node_34 rfl ?_
  refine rn_goto (tgt := 39) dX11_node_35 rfl ?_
  refine rn_istore dX11_node_39 (by decide) rfl ?_
  refine rn_iload_n dX11_node_41 rfl ?_
  refine rn_if_eq (tgt := 56) dX11_node_42 rfl (fun q => absurd q (by decide)) (fun _ => ?_)
  refine rn_iload_n dX11_node_45 rfl ?_
  refine rn_bipush (v := 6) dX11_node_46 rfl ?_
  refine rn_bipush (v := 8) dX11_node_48 rfl ?_
  refine rn_callS dX11_node_50 cs_X11_41 c_X11_isIn rfl (by decide) (by decide) rfl (Nat.le_of_ble_eq_true rfl) ?_
  refine rn_topi (y := 1) (by decide) ?_
  refine rn_if_eq (tgt := 60) dX11_node_53 rfl (fun q => absurd q (by decide)) (fun _ => ?_)
  refine rn_iconst (v := 1) dX11_node_56 rfl ?_
  refine rn_goto (tgt := 61) dX11_node_57 rfl ?_
  refine rn_istore dX11_node_61 (by decide) rfl ?_
  refine rn_aload_n dX11_node_63 rfl ?_
  refine rn_aload_n dX11_node_64 rfl ?_
  refine rnT_get (i := 0) hG dX11_node_65 fo_X11_55 rfl rfl ?_
  refine rn_if_ne (tgt := 83) dX11_node_68 rfl (fun q => absurd q (by decide)) (fun _ => ?_)
  refine rn_aload_n dX11_node_71 rfl ?_
  refine rnT_get (i := 0) hG dX11_node_72 fo_X11_19 rfl rfl ?_
  refine rn_callV dX11_node_75 cv_X11_37 (c_AL_size (i := 87) (gt_at (i := 3) hG rfl)) rfl (gt_at (i := 3) hG rfl) rfl rfl (by decide) (by decide) rfl (Nat.le_of_ble_eq_true rfl) ?_
  refine rn_bipush (v := 16) dX11_node_78 rfl ?_
  refine rn_icmp_ne (tgt := 87) dX11_node_80 rfl (fun _ => ?_) (fun q => absurd q (by decide))
  refine rn_iconst (v := 0) dX11_node_87 rfl ?_
  refine rn_iconst (v := 1) dX11_node_88 rfl ?_
  refine rn_callV dX11_node_89 cv_X11_59 (c_X11_start_0 hG) rfl (gt_at (i := 0) hG rfl) rfl rfl (by decide) (by decide) rfl (Nat.le_of_ble_eq_true rfl) ?_
  refine rn_if_ne (tgt := 148) dX11_node_92 rfl (fun q => absurd q (by decide)) (fun _ => ?_)
  refine rn_aload_n dX11_node_95 rfl ?_
  refine rn_iload dX11_node_96 rfl ?_
  refine rn_if_eq (tgt := 109) dX11_node_98 rfl (fun q => absurd q (by decide)) (fun _ => ?_)
  refine rn_aload_n dX11_node_101 rfl ?_
  refine rn_iload_n dX11_node_102 rfl ?_
  refine rn_callV dX11_node_103 cv_X11_66 (c_X11_isNoNode hG) rfl (gt_at (i := 0) hG rfl) rfl rfl (by decide) (by decide) rfl (Nat.le_of_ble_eq_true rfl) ?_
  refine rn_if_ne (tgt := 136) dX11_node_106 rfl (fun _ => ?_) (fun q => absurd q (by decide))
  refine rn_iconst (v := 1) dX11_node_136 rfl ?_
  refine rn_goto (tgt := 141) dX11_node_137 rfl ?_
  refine rn_iconst (v := 2) dX11_node_141 rfl ?_
  refine rn_callV dX11_node_142 cv_X11_33 (c_X11_refuse_1 hG (by decide)) rfl (gt_at (i := 0) hG rfl) rfl rfl (by decide) (by decide) rfl (Nat.le_of_ble_eq_true rfl) ?_
  refine rn_if_eq (tgt := 150) dX11_node_145 rfl (fun q => absurd q (by decide)) (fun _ => ?_)
  refine rn_iconst (v := 0) dX11_node_148 rfl ?_
  exact rn_ret dX11_node_149 trivial rfl
set_option maxRecDepth 20000 in
theorem c_X11_node_8 {a b c d t : Int32} (hG : G.length = 84) (hU : U.length = u)  : Cn l D ad tc L xs mX11_node 6 500 [.ref 85, .int 8, .int b, .int c, .int d] (G ++ (mdl (j_a0 D) t 0 0 ++ U), sl) (some (.int 0)) (G ++ (mdl (j_a0 D) 2 0 0 ++ U), sl) := by
  refine cn_of (lv0 := [(0, .ref 85), (1, .int 8), (2, .int b), (3, .int c), (4, .int d)]) (by decide +kernel) ⟨_, rfl, rfl⟩ (fun _ => by simp [lg_sl, j_v, Value.category]) (fun _ => rfl) ?_
  refine rn_iload_n dX11_node_0 rfl ?_
  refine rn_iconst (v := 3) dX11_node_1 rfl ?_
  refine rn_iconst (v := 5) dX11_node_2 rfl ?_
  refine rn_callS dX11_node_3 cs_X11_41 c_X11_isIn rfl (by decide) (by decide) rfl (Nat.le_of_ble_eq_true rfl) ?_
  refine rn_topi (y := 0) (by decide) ?_
  refine rn_istore dX11_node_6 (by decide) rfl ?_
  refine rn_iload dX11_node_8 rfl ?_
  refine rn_if_ne (tgt := 34) dX11_node_10 rfl (fun q => absurd q (by decide)) (fun _ => ?_)
  refine rn_iload_n dX11_node_13 rfl ?_
  refine rn_iconst (v := 1) dX11_node_14 rfl ?_
  refine rn_iconst (v := 2) dX11_node_15 rfl ?_
  refine rn_callS dX11_node_16 cs_X11_41 c_X11_isIn rfl (by decide) (by decide) rfl (Nat.le_of_ble_eq_true rfl) ?_
  refine rn_topi (y := 0) (by decide) ?_
  refine rn_if_ne (tgt := 34) dX11_node_19 rfl (fun q => absurd q (by decide)) (fun _ => ?_)
  refine rn_iload_n dX11_node_22 rfl ?_
  refine rn_bipush (v := 7) dX11_node_23 rfl ?_
  refine rn_icmp_eq (tgt := 34) dX11_node_25 rfl (fun q => absurd q (by decide)) (fun _ => ?_)
  refine rn_iload_n dX11_node_28 rfl ?_
  refine rn_bipush (v := 8) dX11_node_29 rfl ?_
  refine rn_icmp_ne (tgt := 38) dX11_node_31 rfl (fun q => absurd q (by decide)) (fun _ => ?_)
  refine rn_iconst (v := 1) dX11_node_34 rfl ?_
  refine rn_goto (tgt := 39) dX11_node_35 rfl ?_
  refine rn_istore dX11_node_39 (by decide) rfl ?_
  refine rn_iload_n dX11_node_41 rfl ?_
  refine rn_if_eq (tgt := 56) dX11_node_42 rfl (fun q => absurd q (by decide)) (fun _ => ?_)
  refine rn_iload_n dX11_node_45 rfl ?_
  refine rn_bipush (v := 6) dX11_node_46 rfl ?_
  refine rn_bipush (v := 8) dX11_node_48 rfl ?_
  refine rn_callS dX11_node_50 cs_X11_41 c_X11_isIn rfl (by decide) (by decide) rfl (Nat.le_of_ble_eq_true rfl) ?_
  refine rn_topi (y := 1) (by decide) ?_
  refine rn_if_eq (tgt := 60) dX11_node_53 rfl (fun q => absurd q (by decide)) (fun _ => ?_)
  refine rn_iconst (v := 1) dX11_node_56 rfl ?_
  refine rn_goto (tgt := 61) dX11_node_57 rfl ?_
  refine rn_istore dX11_node_61 (by decide) rfl ?_
  refine rn_aload_n dX11_node_63 rfl ?_
  refine rn_aload_n dX11_node_64 rfl ?_
  refine rnT_get (i := 0) hG dX11_node_65 fo_X11_55 rfl rfl ?_
  refine rn_if_ne (tgt := 83) dX11_node_68 rfl (fun q => absurd q (by decide)) (fun _ => ?_)
  refine rn_aload_n dX11_node_71 rfl ?_
  refine rnT_get (i := 0) hG dX11_node_72 fo_X11_19 rfl rfl ?_
  refine rn_callV dX11_node_75 cv_X11_37 (c_AL_size (i := 87) (gt_at (i := 3) hG rfl)) rfl (gt_at (i := 3) hG rfl) rfl rfl (by decide) (by decide) rfl (Nat.le_of_ble_eq_true rfl) ?_
  refine rn_bipush (v := 16) dX11_node_78 rfl ?_
  refine rn_icmp_ne (tgt := 87) dX11_node_80 rfl (fun _ => ?_) (fun q => absurd q (by decide))
  refine rn_iconst (v := 0) dX11_node_87 rfl ?_
  refine rn_iconst (v := 1) dX11_node_88 rfl ?_
  refine rn_callV dX11_node_89 cv_X11_59 (c_X11_start_0 hG) rfl (gt_at (i := 0) hG rfl) rfl rfl (by decide) (by decide) rfl (Nat.le_of_ble_eq_true rfl) ?_
  refine rn_if_ne (tgt := 148) dX11_node_92 rfl (fun q => absurd q (by decide)) (fun _ => ?_)
  refine rn_aload_n dX11_node_95 rfl ?_
  refine rn_iload dX11_node_96 rfl ?_
  refine rn_if_eq (tgt := 109) dX11_node_98 rfl (fun q => absurd q (by decide)) (fun _ => ?_)
  refine rn_aload_n dX11_node_101 rfl ?_
  refine rn_iload_n dX11_node_102 rfl ?_
  refine rn_callV dX11_node_103 cv_X11_66 (c_X11_isNoNode hG) rfl (gt_at (i := 0) hG rfl) rfl rfl (by decide) (by decide) rfl (Nat.le_of_ble_eq_true rfl) ?_
  refine rn_if_ne (tgt := 136) dX11_node_106 rfl (fun _ => ?_) (fun q => absurd q (by decide))
  refine rn_iconst (v := 1) dX11_node_136 rfl ?_
  refine rn_goto (tgt := 141) dX11_node_137 rfl ?_
  refine rn_iconst (v := 2) dX11_node_141 rfl ?_
  refine rn_callV dX11_node_142 cv_X11_33 (c_X11_refuse_1 hG (by decide)) rfl (gt_at (i := 0) hG rfl) rfl rfl (by decide) (by decide) rfl (Nat.le_of_ble_eq_true rfl) ?_
  refine rn_if_eq (tgt := 150) dX11_node_145 rfl (fun q => absurd q (by decide)) (fun _ => ?_)
  refine rn_iconst (v := 0) dX11_node_148 rfl ?_
  exact rn_ret dX11_node_149 trivial rfl
set_option maxRecDepth 20000 in
theorem c_X11_node_no {a b c d t : Int32} (hG : G.length = 84) (hU : U.length = u) (hk : ¬ (0 ≤ a ∧ a ≤ 8)) : Cn l D ad tc L xs mX11_node 6 500 [.ref 85, .int a, .int b, .int c, .int d] (G ++ (mdl (j_a0 D) t 0 0 ++ U), sl) (some (.int 0)) (G ++ (mdl (j_a0 D) 3 0 0 ++ U), sl) := by
  refine cn_of (lv0 := [(0, .ref 85), (1, .int a), (2, .int b), (3, .int c), (4, .int d)]) (by decide +kernel) ⟨_, rfl, rfl⟩ (fun _ => by simp [lg_sl, j_v, Value.category]) (fun _ => rfl) ?_
  refine rn_iload_n dX11_node_0 rfl ?_
  refine rn_iconst (v := 3) dX11_node_1 rfl ?_
  refine rn_iconst (v := 5) dX11_node_2 rfl ?_
  refine rn_callS dX11_node_3 cs_X11_41 c_X11_isIn rfl (by decide) (by decide) rfl (Nat.le_of_ble_eq_true rfl) ?_
  refine rn_topi (y := 0) (by rw [bI_0, decide_eq_false_iff_not]; exact fun z => hk ⟨Int32.le_trans (by decide) z.1, Int32.le_trans z.2 (by decide)⟩) ?_
  refine rn_istore dX11_node_6 (by decide) rfl ?_
  refine rn_iload dX11_node_8 rfl ?_
  refine rn_if_ne (tgt := 34) dX11_node_10 rfl (fun q => absurd q (by decide)) (fun _ => ?_)
  refine rn_iload_n dX11_node_13 rfl ?_
  refine rn_iconst (v := 1) dX11_node_14 rfl ?_
  refine rn_iconst (v := 2) dX11_node_15 rfl ?_
  refine rn_callS dX11_node_16 cs_X11_41 c_X11_isIn rfl (by decide) (by decide) rfl (Nat.le_of_ble_eq_true rfl) ?_
  refine rn_topi (y := 0) (by rw [bI_0, decide_eq_false_iff_not]; exact fun z => hk ⟨Int32.le_trans (by decide) z.1, Int32.le_trans z.2 (by decide)⟩) ?_
  refine rn_if_ne (tgt := 34) dX11_node_19 rfl (fun q => absurd q (by decide)) (fun _ => ?_)
  refine rn_iload_n dX11_node_22 rfl ?_
  refine rn_bipush (v := 7) dX11_node_23 rfl ?_
  refine rn_icmp_eq (tgt := 34) dX11_node_25 rfl (fun q => absurd q (by exact fun z => hk (by rw [z]; decide))) (fun _ => ?_)
  refine rn_iload_n dX11_node_28 rfl ?_
  refine rn_bipush (v := 8) dX11_node_29 rfl ?_
  refine rn_icmp_ne (tgt := 38) dX11_node_31 rfl (fun _ => ?_) (fun q => absurd q (by exact fun z => hk (by rw [z]; decide)))
  refine rn_iconst (v := 0) dX11_node_38 rfl ?_
  refine rn_istore dX11_node_39 (by decide) rfl ?_
  refine rn_iload_n dX11_node_41 rfl ?_
  refine rn_if_eq (tgt := 56) dX11_node_42 rfl (fun q => absurd q (by exact fun z => hk (by rw [z]; decide))) (fun _ => ?_)
  refine rn_iload_n dX11_node_45 rfl ?_
  refine rn_bipush (v := 6) dX11_node_46 rfl ?_
  refine rn_bipush (v := 8) dX11_node_48 rfl ?_
  refine rn_callS dX11_node_50 cs_X11_41 c_X11_isIn rfl (by decide) (by decide) rfl (Nat.le_of_ble_eq_true rfl) ?_
  refine rn_topi (y := 0) (by rw [bI_0, decide_eq_false_iff_not]; exact fun z => hk ⟨Int32.le_trans (by decide) z.1, Int32.le_trans z.2 (by decide)⟩) ?_
  refine rn_if_eq (tgt := 60) dX11_node_53 rfl (fun _ => ?_) (fun q => absurd (by decide) q)
  refine rn_iconst (v := 0) dX11_node_60 rfl ?_
  refine rn_istore dX11_node_61 (by decide) rfl ?_
  refine rn_aload_n dX11_node_63 rfl ?_
  refine rn_aload_n dX11_node_64 rfl ?_
  refine rnT_get (i := 0) hG dX11_node_65 fo_X11_55 rfl rfl ?_
  refine rn_if_ne (tgt := 83) dX11_node_68 rfl (fun q => absurd q (by decide)) (fun _ => ?_)
  refine rn_aload_n dX11_node_71 rfl ?_
  refine rnT_get (i := 0) hG dX11_node_72 fo_X11_19 rfl rfl ?_
  refine rn_callV dX11_node_75 cv_X11_37 (c_AL_size (i := 87) (gt_at (i := 3) hG rfl)) rfl (gt_at (i := 3) hG rfl) rfl rfl (by decide) (by decide) rfl (Nat.le_of_ble_eq_true rfl) ?_
  refine rn_bipush (v := 16) dX11_node_78 rfl ?_
  refine rn_icmp_ne (tgt := 87) dX11_node_80 rfl (fun _ => ?_) (fun q => absurd q (by decide))
  refine rn_iconst (v := 0) dX11_node_87 rfl ?_
  refine rn_iconst (v := 1) dX11_node_88 rfl ?_
  refine rn_callV dX11_node_89 cv_X11_59 (c_X11_start_0 hG) rfl (gt_at (i := 0) hG rfl) rfl rfl (by decide) (by decide) rfl (Nat.le_of_ble_eq_true rfl) ?_
  refine rn_if_ne (tgt := 148) dX11_node_92 rfl (fun q => absurd q (by decide)) (fun _ => ?_)
  refine rn_aload_n dX11_node_95 rfl ?_
  refine rn_iload dX11_node_96 rfl ?_
  refine rn_if_eq (tgt := 109) dX11_node_98 rfl (fun _ => ?_) (fun q => absurd (by decide) q)
  refine rn_iload dX11_node_109 rfl ?_
  refine rn_if_eq (tgt := 122) dX11_node_111 rfl (fun _ => ?_) (fun q => absurd (by decide) q)
  refine rn_iload dX11_node_122 rfl ?_
  refine rn_if_eq (tgt := 140) dX11_node_124 rfl (fun _ => ?_) (fun q => absurd (by decide) q)
  refine rn_iconst (v := 0) dX11_node_140 rfl ?_
  refine rn_iconst (v := 2) dX11_node_141 rfl ?_
  refine rn_callV dX11_node_142 cv_X11_33 (c_X11_refuse_0 hG) rfl (gt_at (i := 0) hG rfl) rfl rfl (by decide) (by decide) rfl (Nat.le_of_ble_eq_true rfl) ?_
  refine rn_if_eq (tgt := 150) dX11_node_145 rfl (fun _ => ?_) (fun q => absurd (by decide) q)
  refine rn_aload_n dX11_node_150 rfl ?_
  refine rn_iload_n dX11_node_151 rfl ?_
  refine rn_iconst (v := 0) dX11_node_152 rfl ?_
  refine rn_bipush (v := 8) dX11_node_153 rfl ?_
  refine rn_callS dX11_node_155 cs_X11_41 c_X11_isIn rfl (by decide) (by decide) rfl (Nat.le_of_ble_eq_true rfl) ?_
  refine rn_topi (y := 0) (by rw [bI_0, decide_eq_false_iff_not]; exact fun z => hk ⟨Int32.le_trans (by decide) z.1, Int32.le_trans z.2 (by decide)⟩) ?_
  refine rn_if_eq (tgt := 191) dX11_node_158 rfl (fun _ => ?_) (fun q => absurd (by decide) q)
  refine rn_iconst (v := 1) dX11_node_191 rfl ?_
  refine rn_goto (tgt := 196) dX11_node_192 rfl ?_
  refine rn_iconst (v := 3) dX11_node_196 rfl ?_
  refine rn_callV dX11_node_197 cv_X11_33 (c_X11_refuse_1 hG (by decide)) rfl (gt_at (i := 0) hG rfl) rfl rfl (by decide) (by decide) rfl (Nat.le_of_ble_eq_true rfl) ?_
  refine rn_if_eq (tgt := 205) dX11_node_200 rfl (fun q => absurd q (by decide)) (fun _ => ?_)
  refine rn_iconst (v := 0) dX11_node_203 rfl ?_
  exact rn_ret dX11_node_204 trivial rfl
theorem c_X11_node_in {a b c d t : Int32} (hG : G.length = 84) (hU : U.length = u) (hk : 0 ≤ a ∧ a ≤ 8) : Cn l D ad tc L xs mX11_node 6 500 [.ref 85, .int a, .int b, .int c, .int d] (G ++ (mdl (j_a0 D) t 0 0 ++ U), sl) (some (.int 0)) (G ++ (mdl (j_a0 D) 2 0 0 ++ U), sl) := by
  have h1 := Int32.le_iff_toInt_le.mp hk.1
  have h2 := Int32.le_iff_toInt_le.mp hk.2
  have e0 : (0 : Int32).toInt = 0 := rfl
  have e8 : (8 : Int32).toInt = 8 := rfl
  have : a = 0 ∨ a = 1 ∨ a = 2 ∨ a = 3 ∨ a = 4 ∨ a = 5 ∨ a = 6 ∨ a = 7 ∨ a = 8 := by
    rcases (by omega : a.toInt = 0 ∨ a.toInt = 1 ∨ a.toInt = 2 ∨ a.toInt = 3 ∨ a.toInt = 4 ∨ a.toInt = 5 ∨ a.toInt = 6 ∨ a.toInt = 7 ∨ a.toInt = 8) with h | h | h | h | h | h | h | h | h
    · exact Or.inl (Int32.toInt_inj.mp h)
    · exact Or.inr (Or.inl (Int32.toInt_inj.mp h))
    · exact Or.inr (Or.inr (Or.inl (Int32.toInt_inj.mp h)))
    · exact Or.inr (Or.inr (Or.inr (Or.inl (Int32.toInt_inj.mp h))))
    · exact Or.inr (Or.inr (Or.inr (Or.inr (Or.inl (Int32.toInt_inj.mp h)))))
    · exact Or.inr (Or.inr (Or.inr (Or.inr (Or.inr (Or.inl (Int32.toInt_inj.mp h))))))
    · exact Or.inr (Or.inr (Or.inr (Or.inr (Or.inr (Or.inr (Or.inl (Int32.toInt_inj.mp h)))))))
    · exact Or.inr (Or.inr (Or.inr (Or.inr (Or.inr (Or.inr (Or.inr (Or.inl (Int32.toInt_inj.mp h))))))))
    · exact Or.inr (Or.inr (Or.inr (Or.inr (Or.inr (Or.inr (Or.inr (Or.inr (Int32.toInt_inj.mp h))))))))
  rcases this with rfl | rfl | rfl | rfl | rfl | rfl | rfl | rfl | rfl
  · exact c_X11_node_0 (a := 0) hG hU
  · exact c_X11_node_1 (a := 0) hG hU
  · exact c_X11_node_2 (a := 0) hG hU
  · exact c_X11_node_3 (a := 0) hG hU
  · exact c_X11_node_4 (a := 0) hG hU
  · exact c_X11_node_5 (a := 0) hG hU
  · exact c_X11_node_6 (a := 0) hG hU
  · exact c_X11_node_7 (a := 0) hG hU
  · exact c_X11_node_8 (a := 0) hG hU
set_option maxRecDepth 20000 in
theorem c_X11_exc_from {a b c t : Int32} (hG : G.length = 84) (hU : U.length = u) (hb : ¬ b = -1) : Cn l D ad tc L xs mX11_exception 6 500 [.ref 85, .int a, .int b, .int c] (G ++ (mdl (j_a0 D) t 0 0 ++ U), sl) (some (.int 0)) (G ++ (mdl (j_a0 D) 2 0 0 ++ U), sl) := by
  refine cn_of (lv0 := [(0, .ref 85), (1, .int a), (2, .int b), (3, .int c)]) (by decide +kernel) ⟨_, rfl, rfl⟩ (fun _ => by simp [lg_sl, j_v, Value.category]) (fun _ => rfl) ?_
  refine rn_aload_n dX11_exception_0 rfl ?_
  refine rn_aload_n dX11_exception_1 rfl ?_
  refine rnT_get (i := 0) hG dX11_exception_2 fo_X11_55 rfl rfl ?_
  refine rn_if_ne (tgt := 20) dX11_exception_5 rfl (fun q => absurd q (by decide)) (fun _ => ?_)
  refine rn_aload_n dX11_exception_8 rfl ?_
  refine rnT_get (i := 0) hG dX11_exception_9 fo_X11_22 rfl rfl ?_
  refine rn_callV dX11_exception_12 cv_X11_37 (c_AL_size (i := 88) (gt_at (i := 4) hG rfl)) rfl (gt_at (i := 4) hG rfl) rfl rfl (by decide) (by decide) rfl (Nat.le_of_ble_eq_true rfl) ?_
  refine rn_bipush (v := 6) dX11_exception_15 rfl ?_
  refine rn_icmp_ne (tgt := 24) dX11_exception_17 rfl (fun _ => ?_) (fun q => absurd q (by decide))
  refine rn_iconst (v := 0) dX11_exception_24 rfl ?_
  refine rn_iconst (v := 1) dX11_exception_25 rfl ?_
  refine rn_callV dX11_exception_26 cv_X11_59 (c_X11_start_0 hG) rfl (gt_at (i := 0) hG rfl) rfl rfl (by decide) (by decide) rfl (Nat.le_of_ble_eq_true rfl) ?_
  refine rn_if_ne (tgt := 71) dX11_exception_29 rfl (fun q => absurd q (by decide)) (fun _ => ?_)
  refine rn_aload_n dX11_exception_32 rfl ?_
  refine rn_iload_n dX11_exception_33 rfl ?_
  refine rn_iconst (v := (-1)) dX11_exception_34 rfl ?_
  refine rn_icmp_eq (tgt := 46) dX11_exception_35 rfl (fun q => absurd q (by exact hb)) (fun _ => ?_)
  refine rn_aload_n dX11_exception_38 rfl ?_
  refine rn_iload_n dX11_exception_39 rfl ?_
  refine rn_callV dX11_exception_40 cv_X11_66 (c_X11_isNoNode hG) rfl (gt_at (i := 0) hG rfl) rfl rfl (by decide) (by decide) rfl (Nat.le_of_ble_eq_true rfl) ?_
  refine rn_if_ne (tgt := 59) dX11_exception_43 rfl (fun _ => ?_) (fun q => absurd q (by decide))
  refine rn_iconst (v := 1) dX11_exception_59 rfl ?_
  refine rn_goto (tgt := 64) dX11_exception_60 rfl ?_
  refine rn_iconst (v := 2) dX11_exception_64 rfl ?_
  refine rn_callV dX11_exception_65 cv_X11_33 (c_X11_refuse_1 hG (by decide)) rfl (gt_at (i := 0) hG rfl) rfl rfl (by decide) (by decide) rfl (Nat.le_of_ble_eq_true rfl) ?_
  refine rn_if_eq (tgt := 73) dX11_exception_68 rfl (fun q => absurd q (by decide)) (fun _ => ?_)
  refine rn_iconst (v := 0) dX11_exception_71 rfl ?_
  exact rn_ret dX11_exception_72 trivial rfl
set_option maxRecDepth 20000 in
theorem c_X11_exc_to {a b c t : Int32} (hG : G.length = 84) (hU : U.length = u) (hc : ¬ c = -1) : Cn l D ad tc L xs mX11_exception 6 500 [.ref 85, .int a, .int (-1), .int c] (G ++ (mdl (j_a0 D) t 0 0 ++ U), sl) (some (.int 0)) (G ++ (mdl (j_a0 D) 2 0 0 ++ U), sl) := by
  refine cn_of (lv0 := [(0, .ref 85), (1, .int a), (2, .int (-1)), (3, .int c)]) (by decide +kernel) ⟨_, rfl, rfl⟩ (fun _ => by simp [lg_sl, j_v, Value.category]) (fun _ => rfl) ?_
  refine rn_aload_n dX11_exception_0 rfl ?_
  refine rn_aload_n dX11_exception_1 rfl ?_
  refine rnT_get (i := 0) hG dX11_exception_2 fo_X11_55 rfl rfl ?_
  refine rn_if_ne (tgt := 20) dX11_exception_5 rfl (fun q => absurd q (by decide)) (fun _ => ?_)
  refine rn_aload_n dX11_exception_8 rfl ?_
  refine rnT_get (i := 0) hG dX11_exception_9 fo_X11_22 rfl rfl ?_
  refine rn_callV dX11_exception_12 cv_X11_37 (c_AL_size (i := 88) (gt_at (i := 4) hG rfl)) rfl (gt_at (i := 4) hG rfl) rfl rfl (by decide) (by decide) rfl (Nat.le_of_ble_eq_true rfl) ?_
  refine rn_bipush (v := 6) dX11_exception_15 rfl ?_
  refine rn_icmp_ne (tgt := 24) dX11_exception_17 rfl (fun _ => ?_) (fun q => absurd q (by decide))
  refine rn_iconst (v := 0) dX11_exception_24 rfl ?_
  refine rn_iconst (v := 1) dX11_exception_25 rfl ?_
  refine rn_callV dX11_exception_26 cv_X11_59 (c_X11_start_0 hG) rfl (gt_at (i := 0) hG rfl) rfl rfl (by decide) (by decide) rfl (Nat.le_of_ble_eq_true rfl) ?_
  refine rn_if_ne (tgt := 71) dX11_exception_29 rfl (fun q => absurd q (by decide)) (fun _ => ?_)
  refine rn_aload_n dX11_exception_32 rfl ?_
  refine rn_iload_n dX11_exception_33 rfl ?_
  refine rn_iconst (v := (-1)) dX11_exception_34 rfl ?_
  refine rn_icmp_eq (tgt := 46) dX11_exception_35 rfl (fun _ => ?_) (fun q => absurd (by decide) q)
  refine rn_iload_n dX11_exception_46 rfl ?_
  refine rn_iconst (v := (-1)) dX11_exception_47 rfl ?_
  refine rn_icmp_eq (tgt := 63) dX11_exception_48 rfl (fun q => absurd q (by exact hc)) (fun _ => ?_)
  refine rn_aload_n dX11_exception_51 rfl ?_
  refine rn_iload_n dX11_exception_52 rfl ?_
  refine rn_callV dX11_exception_53 cv_X11_66 (c_X11_isNoNode hG) rfl (gt_at (i := 0) hG rfl) rfl rfl (by decide) (by decide) rfl (Nat.le_of_ble_eq_true rfl) ?_
  refine rn_if_eq (tgt := 63) dX11_exception_56 rfl (fun q => absurd q (by decide)) (fun _ => ?_)
  refine rn_iconst (v := 1) dX11_exception_59 rfl ?_
  refine rn_goto (tgt := 64) dX11_exception_60 rfl ?_
  refine rn_iconst (v := 2) dX11_exception_64 rfl ?_
  refine rn_callV dX11_exception_65 cv_X11_33 (c_X11_refuse_1 hG (by decide)) rfl (gt_at (i := 0) hG rfl) rfl rfl (by decide) (by decide) rfl (Nat.le_of_ble_eq_true rfl) ?_
  refine rn_if_eq (tgt := 73) dX11_exception_68 rfl (fun q => absurd q (by decide)) (fun _ => ?_)
  refine rn_iconst (v := 0) dX11_exception_71 rfl ?_
  exact rn_ret dX11_exception_72 trivial rfl
set_option maxRecDepth 20000 in
theorem c_X11_exc_sort {a b c t : Int32} (hG : G.length = 84) (hU : U.length = u) (h0 : ¬ a = 0) (hk : ¬ (2 ≤ a ∧ a ≤ 4)) : Cn l D ad tc L xs mX11_exception 6 500 [.ref 85, .int a, .int (-1), .int (-1)] (G ++ (mdl (j_a0 D) t 0 0 ++ U), sl) (some (.int 0)) (G ++ (mdl (j_a0 D) 3 0 0 ++ U), sl) := by
  refine cn_of (lv0 := [(0, .ref 85), (1, .int a), (2, .int (-1)), (3, .int (-1))]) (by decide +kernel) ⟨_, rfl, rfl⟩ (fun _ => by simp [lg_sl, j_v, Value.category]) (fun _ => rfl) ?_
  refine rn_aload_n dX11_exception_0 rfl ?_
  refine rn_aload_n dX11_exception_1 rfl ?_
  refine rnT_get (i := 0) hG dX11_exception_2 fo_X11_55 rfl rfl ?_
  refine rn_if_ne (tgt := 20) dX11_exception_5 rfl (fun q => absurd q (by decide)) (fun _ => ?_)
  refine rn_aload_n dX11_exception_8 rfl ?_
  refine rnT_get (i := 0) hG dX11_exception_9 fo_X11_22 rfl rfl ?_
  refine rn_callV dX11_exception_12 cv_X11_37 (c_AL_size (i := 88) (gt_at (i := 4) hG rfl)) rfl (gt_at (i := 4) hG rfl) rfl rfl (by decide) (by decide) rfl (Nat.le_of_ble_eq_true rfl) ?_
  refine rn_bipush (v := 6) dX11_exception_15 rfl ?_
  refine rn_icmp_ne (tgt := 24) dX11_exception_17 rfl (fun _ => ?_) (fun q => absurd q (by decide))
  refine rn_iconst (v := 0) dX11_exception_24 rfl ?_
  refine rn_iconst (v := 1) dX11_exception_25 rfl ?_
  refine rn_callV dX11_exception_26 cv_X11_59 (c_X11_start_0 hG) rfl (gt_at (i := 0) hG rfl) rfl rfl (by decide) (by decide) rfl (Nat.le_of_ble_eq_true rfl) ?_
  refine rn_if_ne (tgt := 71) dX11_exception_29 rfl (fun q => absurd q (by decide)) (fun _ => ?_)
  refine rn_aload_n dX11_exception_32 rfl ?_
  refine rn_iload_n dX11_exception_33 rfl ?_
  refine rn_iconst (v := (-1)) dX11_exception_34 rfl ?_
  refine rn_icmp_eq (tgt := 46) dX11_exception_35 rfl (fun _ => ?_) (fun q => absurd (by decide) q)
  refine rn_iload_n dX11_exception_46 rfl ?_
  refine rn_iconst (v := (-1)) dX11_exception_47 rfl ?_
  refine rn_icmp_eq (tgt := 63) dX11_exception_48 rfl (fun _ => ?_) (fun q => absurd (by decide) q)
  refine rn_iconst (v := 0) dX11_exception_63 rfl ?_
  refine rn_iconst (v := 2) dX11_exception_64 rfl ?_
  refine rn_callV dX11_exception_65 cv_X11_33 (c_X11_refuse_0 hG) rfl (gt_at (i := 0) hG rfl) rfl rfl (by decide) (by decide) rfl (Nat.le_of_ble_eq_true rfl) ?_
  refine rn_if_eq (tgt := 73) dX11_exception_68 rfl (fun _ => ?_) (fun q => absurd (by decide) q)
  refine rn_aload_n dX11_exception_73 rfl ?_
  refine rn_iload_n dX11_exception_74 rfl ?_
  refine rn_if_eq (tgt := 87) dX11_exception_75 rfl (fun q => absurd q (by exact h0)) (fun _ => ?_)
  refine rn_iload_n dX11_exception_78 rfl ?_
  refine rn_iconst (v := 2) dX11_exception_79 rfl ?_
  refine rn_iconst (v := 4) dX11_exception_80 rfl ?_
  refine rn_callS dX11_exception_81 cs_X11_41 c_X11_isIn rfl (by decide) (by decide) rfl (Nat.le_of_ble_eq_true rfl) ?_
  refine rn_topi (y := 0) (by rw [bI_0, decide_eq_false_iff_not]; exact hk) ?_
  refine rn_if_eq (tgt := 113) dX11_exception_84 rfl (fun _ => ?_) (fun q => absurd (by decide) q)
  refine rn_iconst (v := 1) dX11_exception_113 rfl ?_
  refine rn_goto (tgt := 118) dX11_exception_114 rfl ?_
  refine rn_iconst (v := 3) dX11_exception_118 rfl ?_
  refine rn_callV dX11_exception_119 cv_X11_33 (c_X11_refuse_1 hG (by decide)) rfl (gt_at (i := 0) hG rfl) rfl rfl (by decide) (by decide) rfl (Nat.le_of_ble_eq_true rfl) ?_
  refine rn_if_eq (tgt := 127) dX11_exception_122 rfl (fun q => absurd q (by decide)) (fun _ => ?_)
  refine rn_iconst (v := 0) dX11_exception_125 rfl ?_
  exact rn_ret dX11_exception_126 trivial rfl
set_option maxRecDepth 20000 in
theorem c_X11_exc_n {a b c t : Int32} (hG : G.length = 84) (hU : U.length = u) (h0 : ¬ a = 0) (hk : 2 ≤ a ∧ a ≤ 4) : Cn l D ad tc L xs mX11_exception 6 500 [.ref 85, .int a, .int (-1), .int (-1)] (G ++ (mdl (j_a0 D) t 0 0 ++ U), sl) (some (.int 0)) (G ++ (((mdl (j_a0 D) 0 0 0 ++ U) ++ [ia 3 (upd (upd (upd (fun _ => 0) 0 a) 1 (-1)) 2 (-1))]).set 4 (cAL 1 (84 + (7 + u + 1) + 1) 1) ++ [oAL (va_up (fun _ => none) 0 (some (84 + (7 + u) + 1)))]), sl + 3 + 10) := by
  refine cn_of (lv0 := [(0, .ref 85), (1, .int a), (2, .int (-1)), (3, .int (-1))]) (by decide +kernel) ⟨_, rfl, rfl⟩ (fun _ => by simp [lg_sl, j_v, Value.category]) (fun _ => rfl) ?_
  refine rn_aload_n dX11_exception_0 rfl ?_
  refine rn_aload_n dX11_exception_1 rfl ?_
  refine rnT_get (i := 0) hG dX11_exception_2 fo_X11_55 rfl rfl ?_
  refine rn_if_ne (tgt := 20) dX11_exception_5 rfl (fun q => absurd q (by decide)) (fun _ => ?_)
  refine rn_aload_n dX11_exception_8 rfl ?_
  refine rnT_get (i := 0) hG dX11_exception_9 fo_X11_22 rfl rfl ?_
  refine rn_callV dX11_exception_12 cv_X11_37 (c_AL_size (i := 88) (gt_at (i := 4) hG rfl)) rfl (gt_at (i := 4) hG rfl) rfl rfl (by decide) (by decide) rfl (Nat.le_of_ble_eq_true rfl) ?_
  refine rn_bipush (v := 6) dX11_exception_15 rfl ?_
  refine rn_icmp_ne (tgt := 24) dX11_exception_17 rfl (fun _ => ?_) (fun q => absurd q (by decide))
  refine rn_iconst (v := 0) dX11_exception_24 rfl ?_
  refine rn_iconst (v := 1) dX11_exception_25 rfl ?_
  refine rn_callV dX11_exception_26 cv_X11_59 (c_X11_start_0 hG) rfl (gt_at (i := 0) hG rfl) rfl rfl (by decide) (by decide) rfl (Nat.le_of_ble_eq_true rfl) ?_
  refine rn_if_ne (tgt := 71) dX11_exception_29 rfl (fun q => absurd q (by decide)) (fun _ => ?_)
  refine rn_aload_n dX11_exception_32 rfl ?_
  refine rn_iload_n dX11_exception_33 rfl ?_
  refine rn_iconst (v := (-1)) dX11_exception_34 rfl ?_
  refine rn_icmp_eq (tgt := 46) dX11_exception_35 rfl (fun _ => ?_) (fun q => absurd (by decide) q)
  refine rn_iload_n dX11_exception_46 rfl ?_
  refine rn_iconst (v := (-1)) dX11_exception_47 rfl ?_
  refine rn_icmp_eq (tgt := 63) dX11_exception_48 rfl (fun _ => ?_) (fun q => absurd (by decide) q)
  refine rn_iconst (v := 0) dX11_exception_63 rfl ?_
  refine rn_iconst (v := 2) dX11_exception_64 rfl ?_
  refine rn_callV dX11_exception_65 cv_X11_33 (c_X11_refuse_0 hG) rfl (gt_at (i := 0) hG rfl) rfl rfl (by decide) (by decide) rfl (Nat.le_of_ble_eq_true rfl) ?_
  refine rn_if_eq (tgt := 73) dX11_exception_68 rfl (fun _ => ?_) (fun q => absurd (by decide) q)
  refine rn_aload_n dX11_exception_73 rfl ?_
  refine rn_iload_n dX11_exception_74 rfl ?_
  refine rn_if_eq (tgt := 87) dX11_exception_75 rfl (fun q => absurd q (by exact h0)) (fun _ => ?_)
  refine rn_iload_n dX11_exception_78 rfl ?_
  refine rn_iconst (v := 2) dX11_exception_79 rfl ?_
  refine rn_iconst (v := 4) dX11_exception_80 rfl ?_
  refine rn_callS dX11_exception_81 cs_X11_41 c_X11_isIn rfl (by decide) (by decide) rfl (Nat.le_of_ble_eq_true rfl) ?_
  refine rn_topi (y := 1) (is_b (decide_eq_true hk)) ?_
  refine rn_if_eq (tgt := 113) dX11_exception_84 rfl (fun q => absurd q (by decide)) (fun _ => ?_)
  refine rn_iload_n dX11_exception_87 rfl ?_
  refine rn_iconst (v := (-1)) dX11_exception_88 rfl ?_
  refine rn_icmp_eq (tgt := 100) dX11_exception_89 rfl (fun _ => ?_) (fun q => absurd (by decide) q)
  refine rn_iload_n dX11_exception_100 rfl ?_
  refine rn_iconst (v := (-1)) dX11_exception_101 rfl ?_
  refine rn_icmp_eq (tgt := 117) dX11_exception_102 rfl (fun _ => ?_) (fun q => absurd (by decide) q)
  refine rn_iconst (v := 0) dX11_exception_117 rfl ?_
  refine rn_iconst (v := 3) dX11_exception_118 rfl ?_
  refine rn_callV dX11_exception_119 cv_X11_33 (c_X11_refuse_0 hG) rfl (gt_at (i := 0) hG rfl) rfl rfl (by decide) (by decide) rfl (Nat.le_of_ble_eq_true rfl) ?_
  refine rn_if_eq (tgt := 127) dX11_exception_122 rfl (fun _ => ?_) (fun q => absurd (by decide) q)
  refine rn_aload_n dX11_exception_127 rfl ?_
  refine rnT_get (i := 0) hG dX11_exception_128 fo_X11_22 rfl rfl ?_
  refine rn_iconst (v := 3) dX11_exception_131 rfl ?_
  refine rnT_newarr (t := 0) (N := 3) (u := 7 + u) (f := (3, .inl (fun _ => 0))) hG (by simp [mdl, hU]; try omega) dX11_exception_132 rfl wd_210 (by decide) (by decide) (by decide) (fun _ => rfl) (fun _ _ => rfl) ?_
  have hGU : (G ++ (mdl (j_a0 D) 0 0 0 ++ U)).length = 84 + (7 + u) := by simp [mdl, hG, hU]; try omega
  refine rn_h (h2 := ((G ++ (mdl (j_a0 D) 0 0 0 ++ U)) ++ [ia 3 (fun _ => 0)], sl + 3)) (by rw [← List.append_assoc G]; rfl) ?_
  refine rn_dup dX11_exception_134 rfl ?_
  refine rn_iconst (v := 0) dX11_exception_135 rfl ?_
  refine rn_iload_n dX11_exception_136 rfl ?_
  refine rnT_iastore (i := 0) hGU dX11_exception_137 rfl rfl (by unfold vp_in; decide) ?_
  refine rn_h (h2 := ((G ++ (mdl (j_a0 D) 0 0 0 ++ U)) ++ [ia 3 (upd (fun _ => 0) 0 a)], sl + 3)) rfl ?_
  refine rn_dup dX11_exception_138 rfl ?_
  refine rn_iconst (v := 1) dX11_exception_139 rfl ?_
  refine rn_iload_n dX11_exception_140 rfl ?_
  refine rnT_iastore (i := 0) hGU dX11_exception_141 rfl rfl (by unfold vp_in; decide) ?_
  refine rn_h (h2 := ((G ++ (mdl (j_a0 D) 0 0 0 ++ U)) ++ [ia 3 (upd (upd (fun _ => 0) 0 a) 1 (-1))], sl + 3)) rfl ?_
  refine rn_dup dX11_exception_142 rfl ?_
  refine rn_iconst (v := 2) dX11_exception_143 rfl ?_
  refine rn_iload_n dX11_exception_144 rfl ?_
  refine rnT_iastore (i := 0) hGU dX11_exception_145 rfl rfl (by unfold vp_in; decide) ?_
  refine rn_h (h2 := ((G ++ (mdl (j_a0 D) 0 0 0 ++ U)) ++ [ia 3 (upd (upd (upd (fun _ => 0) 0 a) 1 (-1)) 2 (-1))], sl + 3)) rfl ?_
  have hT8 : ((mdl (j_a0 D) 0 0 0 ++ U) ++ [ia 3 (upd (upd (upd (fun _ => 0) 0 a) 1 (-1)) 2 (-1))] : List j_C).length = 7 + u + 1 := by simp [mdl, hU]; try omega
  have hT7 : ((mdl (j_a0 D) 0 0 0 ++ U)).length = 7 + u := by simp [mdl, hU]; try omega
  refine rn_h (h2 := (G ++ ((mdl (j_a0 D) 0 0 0 ++ U) ++ [ia 3 (upd (upd (upd (fun _ => 0) 0 a) 1 (-1)) 2 (-1))]), sl + 3)) (by rw [List.append_assoc G]) ?_
  refine rn_callV dX11_exception_146 cv_X11_25 (c_AL_add (i := 4) (v := 7 + u) (t := 7 + u + 1) hG hT8 rfl (lat_last hT7)) rfl (gt_at (i := 4) hG rfl) rfl rfl (by decide) (by decide) rfl (Nat.le_of_ble_eq_true rfl) ?_
  refine rn_h (h2 := (G ++ (((mdl (j_a0 D) 0 0 0 ++ U) ++ [ia 3 (upd (upd (upd (fun _ => 0) 0 a) 1 (-1)) 2 (-1))]).set 4 (cAL 1 (84 + (7 + u + 1) + 1) 1) ++ [oAL (va_up (fun _ => none) 0 (some (84 + (7 + u) + 1)))]), sl + 3 + 10)) rfl ?_
  refine rn_pop dX11_exception_149 rfl ?_
  refine rn_aload_n dX11_exception_150 rfl ?_
  refine rnT_get (i := 0) hG dX11_exception_151 fo_X11_22 rfl rfl ?_
  refine rn_callV dX11_exception_154 cv_X11_37 (c_AL_size (i := 88) (gt_at (i := 4) hG rfl)) rfl (gt_at (i := 4) hG rfl) rfl rfl (by decide) (by decide) rfl (Nat.le_of_ble_eq_true rfl) ?_
  refine rn_iconst (v := 1) dX11_exception_157 rfl ?_
  refine rn_isub dX11_exception_158 ?_
  refine rn_topi (y := 0) (by decide) ?_
  exact rn_ret dX11_exception_159 trivial rfl
set_option maxRecDepth 20000 in
theorem c_X11_exc_0 {a b c t : Int32} (hG : G.length = 84) (hU : U.length = u)  : Cn l D ad tc L xs mX11_exception 6 500 [.ref 85, .int 0, .int (-1), .int (-1)] (G ++ (mdl (j_a0 D) t 0 0 ++ U), sl) (some (.int 0)) (G ++ (((mdl (j_a0 D) 0 0 0 ++ U) ++ [ia 3 (upd (upd (upd (fun _ => 0) 0 0) 1 (-1)) 2 (-1))]).set 4 (cAL 1 (84 + (7 + u + 1) + 1) 1) ++ [oAL (va_up (fun _ => none) 0 (some (84 + (7 + u) + 1)))]), sl + 3 + 10) := by
  refine cn_of (lv0 := [(0, .ref 85), (1, .int 0), (2, .int (-1)), (3, .int (-1))]) (by decide +kernel) ⟨_, rfl, rfl⟩ (fun _ => by simp [lg_sl, j_v, Value.category]) (fun _ => rfl) ?_
  refine rn_aload_n dX11_exception_0 rfl ?_
  refine rn_aload_n dX11_exception_1 rfl ?_
  refine rnT_get (i := 0) hG dX11_exception_2 fo_X11_55 rfl rfl ?_
  refine rn_if_ne (tgt := 20) dX11_exception_5 rfl (fun q => absurd q (by decide)) (fun _ => ?_)
  refine rn_aload_n dX11_exception_8 rfl ?_
  refine rnT_get (i := 0) hG dX11_exception_9 fo_X11_22 rfl rfl ?_
  refine rn_callV dX11_exception_12 cv_X11_37 (c_AL_size (i := 88) (gt_at (i := 4) hG rfl)) rfl (gt_at (i := 4) hG rfl) rfl rfl (by decide) (by decide) rfl (Nat.le_of_ble_eq_true rfl) ?_
  refine rn_bipush (v := 6) dX11_exception_15 rfl ?_
  refine rn_icmp_ne (tgt := 24) dX11_exception_17 rfl (fun _ => ?_) (fun q => absurd q (by decide))
  refine rn_iconst (v := 0) dX11_exception_24 rfl ?_
  refine rn_iconst (v := 1) dX11_exception_25 rfl ?_
  refine rn_callV dX11_exception_26 cv_X11_59 (c_X11_start_0 hG) rfl (gt_at (i := 0) hG rfl) rfl rfl (by decide) (by decide) rfl (Nat.le_of_ble_eq_true rfl) ?_
  refine rn_if_ne (tgt := 71) dX11_exception_29 rfl (fun q => absurd q (by decide)) (fun _ => ?_)
  refine rn_aload_n dX11_exception_32 rfl ?_
  refine rn_iload_n dX11_exception_33 rfl ?_
  refine rn_iconst (v := (-1)) dX11_exception_34 rfl ?_
  refine rn_icmp_eq (tgt := 46) dX11_exception_35 rfl (fun _ => ?_) (fun q => absurd (by decide) q)
  refine rn_iload_n dX11_exception_46 rfl ?_
  refine rn_iconst (v := (-1)) dX11_exception_47 rfl ?_
  refine rn_icmp_eq (tgt := 63) dX11_exception_48 rfl (fun _ => ?_) (fun q => absurd (by decide) q)
  refine rn_iconst (v := 0) dX11_exception_63 rfl ?_
  refine rn_iconst (v := 2) dX11_exception_64 rfl ?_
  refine rn_callV dX11_exception_65 cv_X11_33 (c_X11_refuse_0 hG) rfl (gt_at (i := 0) hG rfl) rfl rfl (by decide) (by decide) rfl (Nat.le_of_ble_eq_true rfl) ?_
  refine rn_if_eq (tgt := 73) dX11_exception_68 rfl (fun _ => ?_) (fun q => absurd (by decide) q)
  refine rn_aload_n dX11_exception_73 rfl ?_
  refine rn_iload_n dX11_exception_74 rfl ?_
  refine rn_if_eq (tgt := 87) dX11_exception_75 rfl (fun _ => ?_) (fun q => absurd (by decide) q)
  refine rn_iload_n dX11_exception_87 rfl ?_
  refine rn_iconst (v := (-1)) dX11_exception_88 rfl ?_
  refine rn_icmp_eq (tgt := 100) dX11_exception_89 rfl (fun _ => ?_) (fun q => absurd (by decide) q)
  refine rn_iload_n dX11_exception_100 rfl ?_
  refine rn_iconst (v := (-1)) dX11_exception_101 rfl ?_
  refine rn_icmp_eq (tgt := 117) dX11_exception_102 rfl (fun _ => ?_) (fun q => absurd (by decide) q)
  refine rn_iconst (v := 0) dX11_exception_117 rfl ?_
  refine rn_iconst (v := 3) dX11_exception_118 rfl ?_
  refine rn_callV dX11_exception_119 cv_X11_33 (c_X11_refuse_0 hG) rfl (gt_at (i := 0) hG rfl) rfl rfl (by decide) (by decide) rfl (Nat.le_of_ble_eq_true rfl) ?_
  refine rn_if_eq (tgt := 127) dX11_exception_122 rfl (fun _ => ?_) (fun q => absurd (by decide) q)
  refine rn_aload_n dX11_exception_127 rfl ?_
  refine rnT_get (i := 0) hG dX11_exception_128 fo_X11_22 rfl rfl ?_
  refine rn_iconst (v := 3) dX11_exception_131 rfl ?_
  refine rnT_newarr (t := 0) (N := 3) (u := 7 + u) (f := (3, .inl (fun _ => 0))) hG (by simp [mdl, hU]; try omega) dX11_exception_132 rfl wd_210 (by decide) (by decide) (by decide) (fun _ => rfl) (fun _ _ => rfl) ?_
  have hGU : (G ++ (mdl (j_a0 D) 0 0 0 ++ U)).length = 84 + (7 + u) := by simp [mdl, hG, hU]; try omega
  refine rn_h (h2 := ((G ++ (mdl (j_a0 D) 0 0 0 ++ U)) ++ [ia 3 (fun _ => 0)], sl + 3)) (by rw [← List.append_assoc G]; rfl) ?_
  refine rn_dup dX11_exception_134 rfl ?_
  refine rn_iconst (v := 0) dX11_exception_135 rfl ?_
  refine rn_iload_n dX11_exception_136 rfl ?_
  refine rnT_iastore (i := 0) hGU dX11_exception_137 rfl rfl (by unfold vp_in; decide) ?_
  refine rn_h (h2 := ((G ++ (mdl (j_a0 D) 0 0 0 ++ U)) ++ [ia 3 (upd (fun _ => 0) 0 0)], sl + 3)) rfl ?_
  refine rn_dup dX11_exception_138 rfl ?_
  refine rn_iconst (v := 1) dX11_exception_139 rfl ?_
  refine rn_iload_n dX11_exception_140 rfl ?_
  refine rnT_iastore (i := 0) hGU dX11_exception_141 rfl rfl (by unfold vp_in; decide) ?_
  refine rn_h (h2 := ((G ++ (mdl (j_a0 D) 0 0 0 ++ U)) ++ [ia 3 (upd (upd (fun _ => 0) 0 0) 1 (-1))], sl + 3)) rfl ?_
  refine rn_dup dX11_exception_142 rfl ?_
  refine rn_iconst (v := 2) dX11_exception_143 rfl ?_
  refine rn_iload_n dX11_exception_144 rfl ?_
  refine rnT_iastore (i := 0) hGU dX11_exception_145 rfl rfl (by unfold vp_in; decide) ?_
  refine rn_h (h2 := ((G ++ (mdl (j_a0 D) 0 0 0 ++ U)) ++ [ia 3 (upd (upd (upd (fun _ => 0) 0 0) 1 (-1)) 2 (-1))], sl + 3)) rfl ?_
  have hT8 : ((mdl (j_a0 D) 0 0 0 ++ U) ++ [ia 3 (upd (upd (upd (fun _ => 0) 0 0) 1 (-1)) 2 (-1))] : List j_C).length = 7 + u + 1 := by simp [mdl, hU]; try omega
  have hT7 : ((mdl (j_a0 D) 0 0 0 ++ U)).length = 7 + u := by simp [mdl, hU]; try omega
  refine rn_h (h2 := (G ++ ((mdl (j_a0 D) 0 0 0 ++ U) ++ [ia 3 (upd (upd (upd (fun _ => 0) 0 0) 1 (-1)) 2 (-1))]), sl + 3)) (by rw [List.append_assoc G]) ?_
  refine rn_callV dX11_exception_146 cv_X11_25 (c_AL_add (i := 4) (v := 7 + u) (t := 7 + u + 1) hG hT8 rfl (lat_last hT7)) rfl (gt_at (i := 4) hG rfl) rfl rfl (by decide) (by decide) rfl (Nat.le_of_ble_eq_true rfl) ?_
  refine rn_h (h2 := (G ++ (((mdl (j_a0 D) 0 0 0 ++ U) ++ [ia 3 (upd (upd (upd (fun _ => 0) 0 0) 1 (-1)) 2 (-1))]).set 4 (cAL 1 (84 + (7 + u + 1) + 1) 1) ++ [oAL (va_up (fun _ => none) 0 (some (84 + (7 + u) + 1)))]), sl + 3 + 10)) rfl ?_
  refine rn_pop dX11_exception_149 rfl ?_
  refine rn_aload_n dX11_exception_150 rfl ?_
  refine rnT_get (i := 0) hG dX11_exception_151 fo_X11_22 rfl rfl ?_
  refine rn_callV dX11_exception_154 cv_X11_37 (c_AL_size (i := 88) (gt_at (i := 4) hG rfl)) rfl (gt_at (i := 4) hG rfl) rfl rfl (by decide) (by decide) rfl (Nat.le_of_ble_eq_true rfl) ?_
  refine rn_iconst (v := 1) dX11_exception_157 rfl ?_
  refine rn_isub dX11_exception_158 ?_
  refine rn_topi (y := 0) (by decide) ?_
  exact rn_ret dX11_exception_159 trivial rfl
set_option maxRecDepth 20000 in
theorem c_X11_sign_0 {a t : Int32} (hG : G.length = 84) (hU : U.length = u)  : Cn l D ad tc L xs mX11_sign 6 500 [.ref 85, .int 0] (G ++ (mdl (j_a0 D) t 0 0 ++ U), sl) (some (.int 0)) (G ++ (mdl (j_a0 D) 0 0 0 ++ U), sl) := by
  refine cn_of (lv0 := [(0, .ref 85), (1, .int 0)]) (by decide +kernel) ⟨_, rfl, rfl⟩ (fun _ => by simp [lg_sl, j_v, Value.category]) (fun _ => rfl) ?_
  refine rn_aload_n dX11_sign_0 rfl ?_
  refine rn_iconst (v := 0) dX11_sign_1 rfl ?_
  refine rnT_put (i := 0) hG dX11_sign_2 fp_X11_29 rfl (by simp) (fun _ => ⟨rfl, rfl⟩) (Or.inr ⟨_, _, _, rfl, rfl⟩) ?_
  refine rn_h (h2 := (G ++ (mdl (j_a0 D) 0 0 0 ++ U), sl)) rfl ?_
  refine rn_aload_n dX11_sign_5 rfl ?_
  refine rnT_get (i := 0) hG dX11_sign_6 fo_X11_55 rfl rfl ?_
  refine rn_istore_n dX11_sign_9 (by decide) rfl ?_
  refine rn_aload_n dX11_sign_10 rfl ?_
  refine rn_iload_n dX11_sign_11 rfl ?_
  refine rnT_put (i := 0) hG dX11_sign_12 fp_X11_55 rfl (by simp) (fun _ => ⟨rfl, rfl⟩) (Or.inr ⟨_, _, _, rfl, rfl⟩) ?_
  refine rn_h (h2 := (G ++ (mdl (j_a0 D) 0 0 0 ++ U), sl)) rfl ?_
  refine rn_iload_n dX11_sign_15 rfl ?_
  exact rn_ret dX11_sign_16 trivial rfl
set_option maxRecDepth 20000 in
theorem c_X11_sign_1 {a t : Int32} (hG : G.length = 84) (hU : U.length = u)  : Cn l D ad tc L xs mX11_sign 6 500 [.ref 85, .int 1] (G ++ (mdl (j_a0 D) t 0 0 ++ U), sl) (some (.int 0)) (G ++ (mdl (j_a0 D) 0 1 0 ++ U), sl) := by
  refine cn_of (lv0 := [(0, .ref 85), (1, .int 1)]) (by decide +kernel) ⟨_, rfl, rfl⟩ (fun _ => by simp [lg_sl, j_v, Value.category]) (fun _ => rfl) ?_
  refine rn_aload_n dX11_sign_0 rfl ?_
  refine rn_iconst (v := 0) dX11_sign_1 rfl ?_
  refine rnT_put (i := 0) hG dX11_sign_2 fp_X11_29 rfl (by simp) (fun _ => ⟨rfl, rfl⟩) (Or.inr ⟨_, _, _, rfl, rfl⟩) ?_
  refine rn_h (h2 := (G ++ (mdl (j_a0 D) 0 0 0 ++ U), sl)) rfl ?_
  refine rn_aload_n dX11_sign_5 rfl ?_
  refine rnT_get (i := 0) hG dX11_sign_6 fo_X11_55 rfl rfl ?_
  refine rn_istore_n dX11_sign_9 (by decide) rfl ?_
  refine rn_aload_n dX11_sign_10 rfl ?_
  refine rn_iload_n dX11_sign_11 rfl ?_
  refine rnT_put (i := 0) hG dX11_sign_12 fp_X11_55 rfl (by simp) (fun _ => ⟨rfl, rfl⟩) (Or.inr ⟨_, _, _, rfl, rfl⟩) ?_
  refine rn_h (h2 := (G ++ (mdl (j_a0 D) 0 1 0 ++ U), sl)) rfl ?_
  refine rn_iload_n dX11_sign_15 rfl ?_
  exact rn_ret dX11_sign_16 trivial rfl
end R3
