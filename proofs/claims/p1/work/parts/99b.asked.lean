/-! the reference on a fresh object: what is asked -/
section R4
variable {l : Launch} {D : va_G} {ad : Nat → Nat} {tc : Nat → ClassId} {L : Nat} {xs : Nat → Int32} {M : j_M} {d lo pc : Nat} {lv : j_L} {st : List Value} {h h' : j_H} {r : Option Value} {G U : List j_C} {sl u : Nat}
set_option maxRecDepth 20000 in
theorem c_X11_knock {t : Int32} (hG : G.length = 84) (hU : U.length = u)  : Cn l D ad tc L xs mX11_knock 6 500 [.ref 85] (G ++ (mdl (j_a0 D) t 0 0 ++ U), sl) (some (.int 1)) (G ++ (mdl (j_a0 D) 0 0 1 ++ U), sl) := by
  refine cn_of (lv0 := [(0, .ref 85)]) (by decide +kernel) ⟨_, rfl, rfl⟩ (fun _ => by simp [lg_sl, j_v, Value.category]) (fun _ => rfl) ?_
  refine rn_aload_n dX11_knock_0 rfl ?_
  refine rn_iconst (v := 0) dX11_knock_1 rfl ?_
  refine rnT_put (i := 0) hG dX11_knock_2 fp_X11_29 rfl (by simp) (fun _ => ⟨rfl, rfl⟩) (Or.inr ⟨_, _, _, rfl, rfl⟩) ?_
  refine rn_h (h2 := (G ++ (mdl (j_a0 D) 0 0 0 ++ U), sl)) rfl ?_
  refine rn_aload_n dX11_knock_5 rfl ?_
  refine rn_dup dX11_knock_6 rfl ?_
  refine rnT_get (i := 0) hG dX11_knock_7 fo_X11_82 rfl rfl ?_
  refine rn_iconst (v := 1) dX11_knock_10 rfl ?_
  refine rn_iadd dX11_knock_11 ?_
  refine rn_topi (y := 1) (by decide) ?_
  refine rnT_put (i := 0) hG dX11_knock_12 fp_X11_82 rfl (by simp) (fun _ => ⟨rfl, rfl⟩) (Or.inr ⟨_, _, _, rfl, rfl⟩) ?_
  refine rn_h (h2 := (G ++ (mdl (j_a0 D) 0 0 1 ++ U), sl)) rfl ?_
  refine rn_aload_n dX11_knock_15 rfl ?_
  refine rnT_get (i := 0) hG dX11_knock_16 fo_X11_82 rfl rfl ?_
  exact rn_ret dX11_knock_19 trivial rfl
set_option maxRecDepth 20000 in
theorem c_X11_ofClock {a b t : Int32} (hG : G.length = 84) (hU : U.length = u)  : Cn l D ad tc L xs mX11_ofClock 6 500 [.ref 85, .int a, .int b] (G ++ (mdl (j_a0 D) t 0 0 ++ U), sl) (some (.int 0)) (G ++ (mdl (j_a0 D) 1 0 0 ++ U), sl) := by
  refine cn_of (lv0 := [(0, .ref 85), (1, .int a), (2, .int b)]) (by decide +kernel) ⟨_, rfl, rfl⟩ (fun _ => by simp [lg_sl, j_v, Value.category]) (fun _ => rfl) ?_
  refine rn_aload_n dX11_ofClock_0 rfl ?_
  refine rn_aload_n dX11_ofClock_1 rfl ?_
  refine rn_iload_n dX11_ofClock_2 rfl ?_
  refine rn_callV dX11_ofClock_3 cv_X11_62 (c_X11_isNoClock hG) rfl (gt_at (i := 0) hG rfl) rfl rfl (by decide) (by decide) rfl (Nat.le_of_ble_eq_true rfl) ?_
  refine rn_iconst (v := 1) dX11_ofClock_6 rfl ?_
  refine rn_callV dX11_ofClock_7 cv_X11_59 (c_X11_start_1 hG (by decide)) rfl (gt_at (i := 0) hG rfl) rfl rfl (by decide) (by decide) rfl (Nat.le_of_ble_eq_true rfl) ?_
  refine rn_if_ne (tgt := 35) dX11_ofClock_10 rfl (fun _ => ?_) (fun q => absurd q (by decide))
  refine rn_iconst (v := 0) dX11_ofClock_35 rfl ?_
  refine rn_goto (tgt := 52) dX11_ofClock_36 rfl ?_
  exact rn_ret dX11_ofClock_52 trivial rfl
set_option maxRecDepth 20000 in
theorem c_X11_ofNode {a b t : Int32} (hG : G.length = 84) (hU : U.length = u)  : Cn l D ad tc L xs mX11_ofNode 6 500 [.ref 85, .int a, .int b] (G ++ (mdl (j_a0 D) t 0 0 ++ U), sl) (some (.int 0)) (G ++ (mdl (j_a0 D) 1 0 0 ++ U), sl) := by
  refine cn_of (lv0 := [(0, .ref 85), (1, .int a), (2, .int b)]) (by decide +kernel) ⟨_, rfl, rfl⟩ (fun _ => by simp [lg_sl, j_v, Value.category]) (fun _ => rfl) ?_
  refine rn_aload_n dX11_ofNode_0 rfl ?_
  refine rn_aload_n dX11_ofNode_1 rfl ?_
  refine rn_iload_n dX11_ofNode_2 rfl ?_
  refine rn_callV dX11_ofNode_3 cv_X11_66 (c_X11_isNoNode hG) rfl (gt_at (i := 0) hG rfl) rfl rfl (by decide) (by decide) rfl (Nat.le_of_ble_eq_true rfl) ?_
  refine rn_iconst (v := 1) dX11_ofNode_6 rfl ?_
  refine rn_callV dX11_ofNode_7 cv_X11_59 (c_X11_start_1 hG (by decide)) rfl (gt_at (i := 0) hG rfl) rfl rfl (by decide) (by decide) rfl (Nat.le_of_ble_eq_true rfl) ?_
  refine rn_if_ne (tgt := 36) dX11_ofNode_10 rfl (fun _ => ?_) (fun q => absurd q (by decide))
  refine rn_iconst (v := 0) dX11_ofNode_36 rfl ?_
  refine rn_goto (tgt := 46) dX11_ofNode_37 rfl ?_
  exact rn_ret dX11_ofNode_46 trivial rfl
set_option maxRecDepth 20000 in
theorem c_X11_load {a t : Int32} (hG : G.length = 84) (hU : U.length = u)  : Cn l D ad tc L xs mX11_load 6 500 [.ref 85, .int a] (G ++ (mdl (j_a0 D) t 0 0 ++ U), sl) (some (.double (dv 0))) (G ++ (mdl (j_a0 D) 1 0 0 ++ U), sl) := by
  refine cn_of (lv0 := [(0, .ref 85), (1, .int a)]) (by decide +kernel) rfl (fun _ => by simp [lg_sl, j_v, Value.category]) (fun _ => rfl) ?_
  refine rn_aload_n dX11_load_0 rfl ?_
  refine rn_aload_n dX11_load_1 rfl ?_
  refine rn_iload_n dX11_load_2 rfl ?_
  refine rn_callV dX11_load_3 cv_X11_66 (c_X11_isNoNode hG) rfl (gt_at (i := 0) hG rfl) rfl rfl (by decide) (by decide) rfl (Nat.le_of_ble_eq_true rfl) ?_
  refine rn_iconst (v := 1) dX11_load_6 rfl ?_
  refine rn_callV dX11_load_7 cv_X11_59 (c_X11_start_1 hG (by decide)) rfl (gt_at (i := 0) hG rfl) rfl rfl (by decide) (by decide) rfl (Nat.le_of_ble_eq_true rfl) ?_
  refine rn_if_eq (tgt := 17) dX11_load_10 rfl (fun q => absurd q (by decide)) (fun _ => ?_)
  refine rn_dcon0 dX11_load_13 ?_
  refine rn_goto (tgt := 23) dX11_load_14 rfl ?_
  exact rn_ret dX11_load_23 trivial rfl
set_option maxRecDepth 20000 in
theorem c_X11_takes {a b t : Int32} (hG : G.length = 84) (hU : U.length = u)  : Cn l D ad tc L xs mX11_takes 6 500 [.ref 85, .int a, .int b] (G ++ (mdl (j_a0 D) t 0 0 ++ U), sl) (some (.double (dv 0))) (G ++ (mdl (j_a0 D) 1 0 0 ++ U), sl) := by
  refine cn_of (lv0 := [(0, .ref 85), (1, .int a), (2, .int b)]) (by decide +kernel) rfl (fun _ => by simp [lg_sl, j_v, Value.category]) (fun _ => rfl) ?_
  refine rn_aload_n dX11_takes_0 rfl ?_
  refine rn_aload_n dX11_takes_1 rfl ?_
  refine rn_iload_n dX11_takes_2 rfl ?_
  refine rn_callV dX11_takes_3 cv_X11_66 (c_X11_isNoNode hG) rfl (gt_at (i := 0) hG rfl) rfl rfl (by decide) (by decide) rfl (Nat.le_of_ble_eq_true rfl) ?_
  refine rn_iconst (v := 1) dX11_takes_6 rfl ?_
  refine rn_callV dX11_takes_7 cv_X11_59 (c_X11_start_1 hG (by decide)) rfl (gt_at (i := 0) hG rfl) rfl rfl (by decide) (by decide) rfl (Nat.le_of_ble_eq_true rfl) ?_
  refine rn_if_eq (tgt := 17) dX11_takes_10 rfl (fun q => absurd q (by decide)) (fun _ => ?_)
  refine rn_dcon0 dX11_takes_13 ?_
  refine rn_goto (tgt := 31) dX11_takes_14 rfl ?_
  exact rn_ret dX11_takes_31 trivial rfl
set_option maxRecDepth 20000 in
theorem c_X11_arrival {a b c d e t : Int32} (hG : G.length = 84) (hU : U.length = u)  : Cn l D ad tc L xs mX11_arrival 6 500 [.ref 85, .int a, .int b, .int c, .int d, .int e] (G ++ (mdl (j_a0 D) t 0 0 ++ U), sl) (some (.double (dv 0))) (G ++ (mdl (j_a0 D) 1 0 0 ++ U), sl) := by
  refine cn_of (lv0 := [(0, .ref 85), (1, .int a), (2, .int b), (3, .int c), (4, .int d), (5, .int e)]) (by decide +kernel) rfl (fun _ => by simp [lg_sl, j_v, Value.category]) (fun _ => rfl) ?_
  refine rn_aload_n dX11_arrival_0 rfl ?_
  refine rn_aload_n dX11_arrival_1 rfl ?_
  refine rn_iload_n dX11_arrival_2 rfl ?_
  refine rn_callV dX11_arrival_3 cv_X11_66 (c_X11_isNoNode hG) rfl (gt_at (i := 0) hG rfl) rfl rfl (by decide) (by decide) rfl (Nat.le_of_ble_eq_true rfl) ?_
  refine rn_if_ne (tgt := 25) dX11_arrival_6 rfl (fun _ => ?_) (fun q => absurd q (by decide))
  refine rn_iconst (v := 1) dX11_arrival_25 rfl ?_
  refine rn_goto (tgt := 30) dX11_arrival_26 rfl ?_
  refine rn_iconst (v := 1) dX11_arrival_30 rfl ?_
  refine rn_callV dX11_arrival_31 cv_X11_59 (c_X11_start_1 hG (by decide)) rfl (gt_at (i := 0) hG rfl) rfl rfl (by decide) (by decide) rfl (Nat.le_of_ble_eq_true rfl) ?_
  refine rn_if_ne (tgt := 58) dX11_arrival_34 rfl (fun _ => ?_) (fun q => absurd q (by decide))
  refine rn_dcon0 dX11_arrival_58 ?_
  exact rn_ret dX11_arrival_59 trivial rfl
set_option maxRecDepth 20000 in
theorem c_X11_winner {a b t : Int32} (hG : G.length = 84) (hU : U.length = u)  : Cn l D ad tc L xs mX11_winner 6 500 [.ref 85, .int a, .int b] (G ++ (mdl (j_a0 D) t 0 0 ++ U), sl) (some (.int 0)) (G ++ (mdl (j_a0 D) 1 0 0 ++ U), sl) := by
  refine cn_of (lv0 := [(0, .ref 85), (1, .int a), (2, .int b)]) (by decide +kernel) ⟨_, rfl, rfl⟩ (fun _ => by simp [lg_sl, j_v, Value.category]) (fun _ => rfl) ?_
  refine rn_aload_n dX11_winner_0 rfl ?_
  refine rn_aload_n dX11_winner_1 rfl ?_
  refine rn_iload_n dX11_winner_2 rfl ?_
  refine rn_iload_n dX11_winner_3 rfl ?_
  refine rn_callV dX11_winner_4 cv_X11_188 (c_X11_isNoPair hG) rfl (gt_at (i := 0) hG rfl) rfl rfl (by decide) (by decide) rfl (Nat.le_of_ble_eq_true rfl) ?_
  refine rn_iconst (v := 1) dX11_winner_7 rfl ?_
  refine rn_callV dX11_winner_8 cv_X11_59 (c_X11_start_1 hG (by decide)) rfl (gt_at (i := 0) hG rfl) rfl rfl (by decide) (by decide) rfl (Nat.le_of_ble_eq_true rfl) ?_
  refine rn_if_ne (tgt := 28) dX11_winner_11 rfl (fun _ => ?_) (fun q => absurd q (by decide))
  refine rn_iconst (v := 0) dX11_winner_28 rfl ?_
  refine rn_goto (tgt := 38) dX11_winner_29 rfl ?_
  exact rn_ret dX11_winner_38 trivial rfl
set_option maxRecDepth 20000 in
theorem c_X11_leftAt {a b c t : Int32} (hG : G.length = 84) (hU : U.length = u)  : Cn l D ad tc L xs mX11_leftAt 6 500 [.ref 85, .int a, .int b, .int c] (G ++ (mdl (j_a0 D) t 0 0 ++ U), sl) (some (.double (dv 0))) (G ++ (mdl (j_a0 D) 1 0 0 ++ U), sl) := by
  refine cn_of (lv0 := [(0, .ref 85), (1, .int a), (2, .int b), (3, .int c)]) (by decide +kernel) rfl (fun _ => by simp [lg_sl, j_v, Value.category]) (fun _ => rfl) ?_
  refine rn_aload_n dX11_leftAt_0 rfl ?_
  refine rn_aload_n dX11_leftAt_1 rfl ?_
  refine rn_iload_n dX11_leftAt_2 rfl ?_
  refine rn_callV dX11_leftAt_3 cv_X11_66 (c_X11_isNoNode hG) rfl (gt_at (i := 0) hG rfl) rfl rfl (by decide) (by decide) rfl (Nat.le_of_ble_eq_true rfl) ?_
  refine rn_if_ne (tgt := 17) dX11_leftAt_6 rfl (fun _ => ?_) (fun q => absurd q (by decide))
  refine rn_iconst (v := 1) dX11_leftAt_17 rfl ?_
  refine rn_goto (tgt := 22) dX11_leftAt_18 rfl ?_
  refine rn_iconst (v := 1) dX11_leftAt_22 rfl ?_
  refine rn_callV dX11_leftAt_23 cv_X11_59 (c_X11_start_1 hG (by decide)) rfl (gt_at (i := 0) hG rfl) rfl rfl (by decide) (by decide) rfl (Nat.le_of_ble_eq_true rfl) ?_
  refine rn_if_ne (tgt := 50) dX11_leftAt_26 rfl (fun _ => ?_) (fun q => absurd q (by decide))
  refine rn_dcon0 dX11_leftAt_50 ?_
  refine rn_goto (tgt := 61) dX11_leftAt_51 rfl ?_
  exact rn_ret dX11_leftAt_61 trivial rfl
set_option maxRecDepth 20000 in
theorem c_X11_borrow {a b t : Int32} (hG : G.length = 84) (hU : U.length = u)  : Cn l D ad tc L xs mX11_borrow 6 500 [.ref 85, .int a, .int b] (G ++ (mdl (j_a0 D) t 0 0 ++ U), sl) (some (.double (dv 0))) (G ++ (mdl (j_a0 D) 1 0 0 ++ U), sl) := by
  refine cn_of (lv0 := [(0, .ref 85), (1, .int a), (2, .int b)]) (by decide +kernel) rfl (fun _ => by simp [lg_sl, j_v, Value.category]) (fun _ => rfl) ?_
  refine rn_aload_n dX11_borrow_0 rfl ?_
  refine rn_aload_n dX11_borrow_1 rfl ?_
  refine rn_iload_n dX11_borrow_2 rfl ?_
  refine rn_callV dX11_borrow_3 cv_X11_66 (c_X11_isNoNode hG) rfl (gt_at (i := 0) hG rfl) rfl rfl (by decide) (by decide) rfl (Nat.le_of_ble_eq_true rfl) ?_
  refine rn_if_ne (tgt := 17) dX11_borrow_6 rfl (fun _ => ?_) (fun q => absurd q (by decide))
  refine rn_iconst (v := 1) dX11_borrow_17 rfl ?_
  refine rn_goto (tgt := 22) dX11_borrow_18 rfl ?_
  refine rn_iconst (v := 1) dX11_borrow_22 rfl ?_
  refine rn_callV dX11_borrow_23 cv_X11_59 (c_X11_start_1 hG (by decide)) rfl (gt_at (i := 0) hG rfl) rfl rfl (by decide) (by decide) rfl (Nat.le_of_ble_eq_true rfl) ?_
  refine rn_if_ne (tgt := 52) dX11_borrow_26 rfl (fun _ => ?_) (fun q => absurd q (by decide))
  refine rn_dcon0 dX11_borrow_52 ?_
  refine rn_goto (tgt := 62) dX11_borrow_53 rfl ?_
  exact rn_ret dX11_borrow_62 trivial rfl
set_option maxRecDepth 20000 in
theorem c_X11_ways {a b t : Int32} (hG : G.length = 84) (hU : U.length = u)  : Cn l D ad tc L xs mX11_ways 6 500 [.ref 85, .int a, .int b] (G ++ (mdl (j_a0 D) t 0 0 ++ U), sl) (some (.int 0)) (G ++ (mdl (j_a0 D) 1 0 0 ++ U), sl) := by
  refine cn_of (lv0 := [(0, .ref 85), (1, .int a), (2, .int b)]) (by decide +kernel) ⟨_, rfl, rfl⟩ (fun _ => by simp [lg_sl, j_v, Value.category]) (fun _ => rfl) ?_
  refine rn_aload_n dX11_ways_0 rfl ?_
  refine rn_aload_n dX11_ways_1 rfl ?_
  refine rn_iload_n dX11_ways_2 rfl ?_
  refine rn_iload_n dX11_ways_3 rfl ?_
  refine rn_callV dX11_ways_4 cv_X11_188 (c_X11_isNoPair hG) rfl (gt_at (i := 0) hG rfl) rfl rfl (by decide) (by decide) rfl (Nat.le_of_ble_eq_true rfl) ?_
  refine rn_iconst (v := 1) dX11_ways_7 rfl ?_
  refine rn_callV dX11_ways_8 cv_X11_59 (c_X11_start_1 hG (by decide)) rfl (gt_at (i := 0) hG rfl) rfl rfl (by decide) (by decide) rfl (Nat.le_of_ble_eq_true rfl) ?_
  refine rn_if_ne (tgt := 28) dX11_ways_11 rfl (fun _ => ?_) (fun q => absurd q (by decide))
  refine rn_iconst (v := 0) dX11_ways_28 rfl ?_
  exact rn_ret dX11_ways_29 trivial rfl
set_option maxRecDepth 20000 in
theorem c_X11_worst {a b t : Int32} (hG : G.length = 84) (hU : U.length = u)  : Cn l D ad tc L xs mX11_worst 6 500 [.ref 85, .int a, .int b] (G ++ (mdl (j_a0 D) t 0 0 ++ U), sl) (some (.int 0)) (G ++ (mdl (j_a0 D) 1 0 0 ++ U), sl) := by
  refine cn_of (lv0 := [(0, .ref 85), (1, .int a), (2, .int b)]) (by decide +kernel) ⟨_, rfl, rfl⟩ (fun _ => by simp [lg_sl, j_v, Value.category]) (fun _ => rfl) ?_
  refine rn_aload_n dX11_worst_0 rfl ?_
  refine rn_aload_n dX11_worst_1 rfl ?_
  refine rn_iload_n dX11_worst_2 rfl ?_
  refine rn_callV dX11_worst_3 cv_X11_66 (c_X11_isNoNode hG) rfl (gt_at (i := 0) hG rfl) rfl rfl (by decide) (by decide) rfl (Nat.le_of_ble_eq_true rfl) ?_
  refine rn_iconst (v := 1) dX11_worst_6 rfl ?_
  refine rn_callV dX11_worst_7 cv_X11_59 (c_X11_start_1 hG (by decide)) rfl (gt_at (i := 0) hG rfl) rfl rfl (by decide) (by decide) rfl (Nat.le_of_ble_eq_true rfl) ?_
  refine rn_if_ne (tgt := 44) dX11_worst_10 rfl (fun _ => ?_) (fun q => absurd q (by decide))
  refine rn_iconst (v := 0) dX11_worst_44 rfl ?_
  refine rn_goto (tgt := 54) dX11_worst_45 rfl ?_
  exact rn_ret dX11_worst_54 trivial rfl
set_option maxRecDepth 20000 in
theorem c_X11_wouldLeave {a b t : Int32} (hG : G.length = 84) (hU : U.length = u)  : Cn l D ad tc L xs mX11_wouldLeave 6 500 [.ref 85, .int a, .int b] (G ++ (mdl (j_a0 D) t 0 0 ++ U), sl) (some (.double (dv 0))) (G ++ (mdl (j_a0 D) 1 0 0 ++ U), sl) := by
  refine cn_of (lv0 := [(0, .ref 85), (1, .int a), (2, .int b)]) (by decide +kernel) rfl (fun _ => by simp [lg_sl, j_v, Value.category]) (fun _ => rfl) ?_
  refine rn_aload_n dX11_wouldLeave_0 rfl ?_
  refine rn_aload_n dX11_wouldLeave_1 rfl ?_
  refine rn_iload_n dX11_wouldLeave_2 rfl ?_
  refine rn_callV dX11_wouldLeave_3 cv_X11_66 (c_X11_isNoNode hG) rfl (gt_at (i := 0) hG rfl) rfl rfl (by decide) (by decide) rfl (Nat.le_of_ble_eq_true rfl) ?_
  refine rn_iconst (v := 1) dX11_wouldLeave_6 rfl ?_
  refine rn_callV dX11_wouldLeave_7 cv_X11_59 (c_X11_start_1 hG (by decide)) rfl (gt_at (i := 0) hG rfl) rfl rfl (by decide) (by decide) rfl (Nat.le_of_ble_eq_true rfl) ?_
  refine rn_if_ne (tgt := 25) dX11_wouldLeave_10 rfl (fun _ => ?_) (fun q => absurd q (by decide))
  refine rn_dcon0 dX11_wouldLeave_25 ?_
  refine rn_goto (tgt := 35) dX11_wouldLeave_26 rfl ?_
  exact rn_ret dX11_wouldLeave_35 trivial rfl
set_option maxRecDepth 20000 in
theorem c_X11_left {a b c d t : Int32} (hG : G.length = 84) (hU : U.length = u)  : Cn l D ad tc L xs mX11_left 6 500 [.ref 85, .int a, .int b, .int c, .int d] (G ++ (mdl (j_a0 D) t 0 0 ++ U), sl) (some (.double (dv 0))) (G ++ (mdl (j_a0 D) 1 0 0 ++ U), sl) := by
  refine cn_of (lv0 := [(0, .ref 85), (1, .int a), (2, .int b), (3, .int c), (4, .int d)]) (by decide +kernel) rfl (fun _ => by simp [lg_sl, j_v, Value.category]) (fun _ => rfl) ?_
  refine rn_aload_n dX11_left_0 rfl ?_
  refine rn_aload_n dX11_left_1 rfl ?_
  refine rn_iload_n dX11_left_2 rfl ?_
  refine rn_iload_n dX11_left_3 rfl ?_
  refine rn_callV dX11_left_4 cv_X11_188 (c_X11_isNoPair hG) rfl (gt_at (i := 0) hG rfl) rfl rfl (by decide) (by decide) rfl (Nat.le_of_ble_eq_true rfl) ?_
  refine rn_if_ne (tgt := 18) dX11_left_7 rfl (fun _ => ?_) (fun q => absurd q (by decide))
  refine rn_iconst (v := 1) dX11_left_18 rfl ?_
  refine rn_goto (tgt := 23) dX11_left_19 rfl ?_
  refine rn_iconst (v := 1) dX11_left_23 rfl ?_
  refine rn_callV dX11_left_24 cv_X11_59 (c_X11_start_1 hG (by decide)) rfl (gt_at (i := 0) hG rfl) rfl rfl (by decide) (by decide) rfl (Nat.le_of_ble_eq_true rfl) ?_
  refine rn_if_ne (tgt := 44) dX11_left_27 rfl (fun _ => ?_) (fun q => absurd q (by decide))
  refine rn_dcon0 dX11_left_44 ?_
  refine rn_goto (tgt := 57) dX11_left_45 rfl ?_
  exact rn_ret dX11_left_57 trivial rfl
set_option maxRecDepth 20000 in
theorem c_X11_lacking {a t : Int32} (hG : G.length = 84) : Cn l D ad tc L xs mX11_lacking 1 60 [.ref 85, .int a] (G ++ (mdl (j_a0 D) t 0 0 ++ U), sl) (some (.int 0)) (G ++ (mdl (j_a0 D) t 0 0 ++ U), sl) := by
  refine cn_of (lv0 := [(0, .ref 85), (1, .int a)]) (by decide +kernel) ⟨_, rfl, rfl⟩ (fun _ => by simp [lg_sl, j_v, Value.category]) (fun _ => rfl) ?_
  refine rn_iconst (v := 0) dX11_lacking_0 rfl ?_
  refine rn_istore_n dX11_lacking_1 (by decide) rfl ?_
  refine rn_iconst (v := 0) dX11_lacking_2 rfl ?_
  refine rn_istore_n dX11_lacking_3 (by decide) rfl ?_
  refine rn_iload_n dX11_lacking_4 rfl ?_
  refine rn_aload_n dX11_lacking_5 rfl ?_
  refine rnT_get (i := 0) hG dX11_lacking_6 fo_X11_19 rfl rfl ?_
  refine rn_callV dX11_lacking_9 cv_X11_37 (c_AL_size (i := 87) (gt_at (i := 3) hG rfl)) rfl (gt_at (i := 3) hG rfl) rfl rfl (by decide) (by decide) rfl (Nat.le_of_ble_eq_true rfl) ?_
  refine rn_icmp_ge (tgt := 49) dX11_lacking_12 rfl (fun _ => ?_) (fun q => absurd (by decide) q)
  refine rn_iload_n dX11_lacking_49 rfl ?_
  exact rn_ret dX11_lacking_50 trivial rfl
set_option maxRecDepth 20000 in
theorem c_X11_pairs {a t : Int32} (hG : G.length = 84) : Cn l D ad tc L xs mX11_pairs 1 60 [.ref 85, .int a] (G ++ (mdl (j_a0 D) t 0 0 ++ U), sl) (some (.int 0)) (G ++ (mdl (j_a0 D) t 0 0 ++ U), sl) := by
  refine cn_of (lv0 := [(0, .ref 85), (1, .int a)]) (by decide +kernel) ⟨_, rfl, rfl⟩ (fun _ => by simp [lg_sl, j_v, Value.category]) (fun _ => rfl) ?_
  refine rn_iconst (v := 0) dX11_pairs_0 rfl ?_
  refine rn_istore_n dX11_pairs_1 (by decide) rfl ?_
  refine rn_iconst (v := 0) dX11_pairs_2 rfl ?_
  refine rn_istore_n dX11_pairs_3 (by decide) rfl ?_
  refine rn_iload_n dX11_pairs_4 rfl ?_
  refine rn_aload_n dX11_pairs_5 rfl ?_
  refine rnT_get (i := 0) hG dX11_pairs_6 fo_X11_19 rfl rfl ?_
  refine rn_callV dX11_pairs_9 cv_X11_37 (c_AL_size (i := 87) (gt_at (i := 3) hG rfl)) rfl (gt_at (i := 3) hG rfl) rfl rfl (by decide) (by decide) rfl (Nat.le_of_ble_eq_true rfl) ?_
  refine rn_icmp_ge (tgt := 171) dX11_pairs_12 rfl (fun _ => ?_) (fun q => absurd (by decide) q)
  refine rn_iload_n dX11_pairs_171 rfl ?_
  exact rn_ret dX11_pairs_172 trivial rfl
set_option maxRecDepth 20000 in
theorem c_X11_told_0 {t : Int32} (hG : G.length = 84) : Cn l D ad tc L xs mX11_told 2 120 [.ref 85, .int 0] (G ++ (mdl (j_a0 D) t 0 0 ++ U), sl) (some (.int 0)) (G ++ (mdl (j_a0 D) t 0 0 ++ U), sl) := by
  refine cn_of (lv0 := [(0, .ref 85), (1, .int 0)]) (by decide +kernel) ⟨_, rfl, rfl⟩ (fun _ => by simp [lg_sl, j_v, Value.category]) (fun _ => rfl) ?_
  refine rn_iload_n dX11_told_0 rfl ?_
  refine rn_tableIn (tgt := 60) dX11_told_1 (by decide) (by decide) rfl rfl ?_
  refine rn_aload_n dX11_told_60 rfl ?_
  refine rnT_get (i := 0) hG dX11_told_61 fo_X11_10 rfl rfl ?_
  refine rn_callV dX11_told_64 cv_X11_37 (c_AL_size (i := 85) (gt_at (i := 1) hG rfl)) rfl (gt_at (i := 1) hG rfl) rfl rfl (by decide) (by decide) rfl (Nat.le_of_ble_eq_true rfl) ?_
  exact rn_ret dX11_told_67 trivial rfl
set_option maxRecDepth 20000 in
theorem c_X11_told_1 {t : Int32} (hG : G.length = 84) : Cn l D ad tc L xs mX11_told 2 120 [.ref 85, .int 1] (G ++ (mdl (j_a0 D) t 0 0 ++ U), sl) (some (.int 1)) (G ++ (mdl (j_a0 D) t 0 0 ++ U), sl) := by
  refine cn_of (lv0 := [(0, .ref 85), (1, .int 1)]) (by decide +kernel) ⟨_, rfl, rfl⟩ (fun _ => by simp [lg_sl, j_v, Value.category]) (fun _ => rfl) ?_
  refine rn_iload_n dX11_told_0 rfl ?_
  refine rn_tableIn (tgt := 68) dX11_told_1 (by decide) (by decide) rfl rfl ?_
  refine rn_aload_n dX11_told_68 rfl ?_
  refine rnT_get (i := 0) hG dX11_told_69 fo_X11_16 rfl rfl ?_
  refine rn_callV dX11_told_72 cv_X11_37 (c_AL_size (i := 86) (gt_at (i := 2) hG rfl)) rfl (gt_at (i := 2) hG rfl) rfl rfl (by decide) (by decide) rfl (Nat.le_of_ble_eq_true rfl) ?_
  exact rn_ret dX11_told_75 trivial rfl
set_option maxRecDepth 20000 in
theorem c_X11_told_2 {t : Int32} (hG : G.length = 84) : Cn l D ad tc L xs mX11_told 2 120 [.ref 85, .int 2] (G ++ (mdl (j_a0 D) t 0 0 ++ U), sl) (some (.int 0)) (G ++ (mdl (j_a0 D) t 0 0 ++ U), sl) := by
  refine cn_of (lv0 := [(0, .ref 85), (1, .int 2)]) (by decide +kernel) ⟨_, rfl, rfl⟩ (fun _ => by simp [lg_sl, j_v, Value.category]) (fun _ => rfl) ?_
  refine rn_iload_n dX11_told_0 rfl ?_
  refine rn_tableIn (tgt := 76) dX11_told_1 (by decide) (by decide) rfl rfl ?_
  refine rn_aload_n dX11_told_76 rfl ?_
  refine rnT_get (i := 0) hG dX11_told_77 fo_X11_19 rfl rfl ?_
  refine rn_callV dX11_told_80 cv_X11_37 (c_AL_size (i := 87) (gt_at (i := 3) hG rfl)) rfl (gt_at (i := 3) hG rfl) rfl rfl (by decide) (by decide) rfl (Nat.le_of_ble_eq_true rfl) ?_
  exact rn_ret dX11_told_83 trivial rfl
set_option maxRecDepth 20000 in
theorem c_X11_told_3 {t : Int32} (hG : G.length = 84) : Cn l D ad tc L xs mX11_told 2 120 [.ref 85, .int 3] (G ++ (mdl (j_a0 D) t 0 0 ++ U), sl) (some (.int 0)) (G ++ (mdl (j_a0 D) t 0 0 ++ U), sl) := by
  refine cn_of (lv0 := [(0, .ref 85), (1, .int 3)]) (by decide +kernel) ⟨_, rfl, rfl⟩ (fun _ => by simp [lg_sl, j_v, Value.category]) (fun _ => rfl) ?_
  refine rn_iload_n dX11_told_0 rfl ?_
  refine rn_tableIn (tgt := 84) dX11_told_1 (by decide) (by decide) rfl rfl ?_
  refine rn_aload_n dX11_told_84 rfl ?_
  refine rnT_get (i := 0) hG dX11_told_85 fo_X11_22 rfl rfl ?_
  refine rn_callV dX11_told_88 cv_X11_37 (c_AL_size (i := 88) (gt_at (i := 4) hG rfl)) rfl (gt_at (i := 4) hG rfl) rfl rfl (by decide) (by decide) rfl (Nat.le_of_ble_eq_true rfl) ?_
  exact rn_ret dX11_told_91 trivial rfl
set_option maxRecDepth 20000 in
theorem c_X11_told_4 {t : Int32} (hG : G.length = 84) : Cn l D ad tc L xs mX11_told 2 120 [.ref 85, .int 4] (G ++ (mdl (j_a0 D) t 0 0 ++ U), sl) (some (.int 0)) (G ++ (mdl (j_a0 D) t 0 0 ++ U), sl) := by
  refine cn_of (lv0 := [(0, .ref 85), (1, .int 4)]) (by decide +kernel) ⟨_, rfl, rfl⟩ (fun _ => by simp [lg_sl, j_v, Value.category]) (fun _ => rfl) ?_
  refine rn_iload_n dX11_told_0 rfl ?_
  refine rn_tableIn (tgt := 117) dX11_told_1 (by decide) (by decide) rfl rfl ?_
  refine rn_aload_n dX11_told_117 rfl ?_
  refine rn_iload_n dX11_told_118 rfl ?_
  refine rn_callV dX11_told_119 cv_X11_221 (c_X11_pairs hG) rfl (gt_at (i := 0) hG rfl) rfl rfl (by decide) (by decide) rfl (Nat.le_of_ble_eq_true rfl) ?_
  exact rn_ret dX11_told_122 trivial rfl
set_option maxRecDepth 20000 in
theorem c_X11_told_5 {t : Int32} (hG : G.length = 84) : Cn l D ad tc L xs mX11_told 2 120 [.ref 85, .int 5] (G ++ (mdl (j_a0 D) t 0 0 ++ U), sl) (some (.int 0)) (G ++ (mdl (j_a0 D) t 0 0 ++ U), sl) := by
  refine cn_of (lv0 := [(0, .ref 85), (1, .int 5)]) (by decide +kernel) ⟨_, rfl, rfl⟩ (fun _ => by simp [lg_sl, j_v, Value.category]) (fun _ => rfl) ?_
  refine rn_iload_n dX11_told_0 rfl ?_
  refine rn_tableIn (tgt := 92) dX11_told_1 (by decide) (by decide) rfl rfl ?_
  refine rn_aload_n dX11_told_92 rfl ?_
  refine rn_iconst (v := 1) dX11_told_93 rfl ?_
  refine rn_callV dX11_told_94 cv_X11_218 (c_X11_lacking hG) rfl (gt_at (i := 0) hG rfl) rfl rfl (by decide) (by decide) rfl (Nat.le_of_ble_eq_true rfl) ?_
  exact rn_ret dX11_told_97 trivial rfl
set_option maxRecDepth 20000 in
theorem c_X11_told_6 {t : Int32} (hG : G.length = 84) : Cn l D ad tc L xs mX11_told 2 120 [.ref 85, .int 6] (G ++ (mdl (j_a0 D) t 0 0 ++ U), sl) (some (.int 0)) (G ++ (mdl (j_a0 D) t 0 0 ++ U), sl) := by
  refine cn_of (lv0 := [(0, .ref 85), (1, .int 6)]) (by decide +kernel) ⟨_, rfl, rfl⟩ (fun _ => by simp [lg_sl, j_v, Value.category]) (fun _ => rfl) ?_
  refine rn_iload_n dX11_told_0 rfl ?_
  refine rn_tableIn (tgt := 98) dX11_told_1 (by decide) (by decide) rfl rfl ?_
  refine rn_aload_n dX11_told_98 rfl ?_
  refine rn_iconst (v := 0) dX11_told_99 rfl ?_
  refine rn_callV dX11_told_100 cv_X11_218 (c_X11_lacking hG) rfl (gt_at (i := 0) hG rfl) rfl rfl (by decide) (by decide) rfl (Nat.le_of_ble_eq_true rfl) ?_
  exact rn_ret dX11_told_103 trivial rfl
set_option maxRecDepth 20000 in
theorem c_X11_told_7 {t : Int32} (hG : G.length = 84) : Cn l D ad tc L xs mX11_told 2 120 [.ref 85, .int 7] (G ++ (mdl (j_a0 D) t 0 0 ++ U), sl) (some (.int 0)) (G ++ (mdl (j_a0 D) t 0 0 ++ U), sl) := by
  refine cn_of (lv0 := [(0, .ref 85), (1, .int 7)]) (by decide +kernel) ⟨_, rfl, rfl⟩ (fun _ => by simp [lg_sl, j_v, Value.category]) (fun _ => rfl) ?_
  refine rn_iload_n dX11_told_0 rfl ?_
  refine rn_tableIn (tgt := 117) dX11_told_1 (by decide) (by decide) rfl rfl ?_
  refine rn_aload_n dX11_told_117 rfl ?_
  refine rn_iload_n dX11_told_118 rfl ?_
  refine rn_callV dX11_told_119 cv_X11_221 (c_X11_pairs hG) rfl (gt_at (i := 0) hG rfl) rfl rfl (by decide) (by decide) rfl (Nat.le_of_ble_eq_true rfl) ?_
  exact rn_ret dX11_told_122 trivial rfl
set_option maxRecDepth 20000 in
theorem c_X11_told_8 {t : Int32} (hG : G.length = 84) : Cn l D ad tc L xs mX11_told 2 120 [.ref 85, .int 8] (G ++ (mdl (j_a0 D) t 0 0 ++ U), sl) (some (.int 0)) (G ++ (mdl (j_a0 D) t 0 0 ++ U), sl) := by
  refine cn_of (lv0 := [(0, .ref 85), (1, .int 8)]) (by decide +kernel) ⟨_, rfl, rfl⟩ (fun _ => by simp [lg_sl, j_v, Value.category]) (fun _ => rfl) ?_
  refine rn_iload_n dX11_told_0 rfl ?_
  refine rn_tableIn (tgt := 117) dX11_told_1 (by decide) (by decide) rfl rfl ?_
  refine rn_aload_n dX11_told_117 rfl ?_
  refine rn_iload_n dX11_told_118 rfl ?_
  refine rn_callV dX11_told_119 cv_X11_221 (c_X11_pairs hG) rfl (gt_at (i := 0) hG rfl) rfl rfl (by decide) (by decide) rfl (Nat.le_of_ble_eq_true rfl) ?_
  exact rn_ret dX11_told_122 trivial rfl
set_option maxRecDepth 20000 in
theorem c_X11_told_9 {t : Int32} (hG : G.length = 84) : Cn l D ad tc L xs mX11_told 2 120 [.ref 85, .int 9] (G ++ (mdl (j_a0 D) t 0 0 ++ U), sl) (some (.int 0)) (G ++ (mdl (j_a0 D) t 0 0 ++ U), sl) := by
  refine cn_of (lv0 := [(0, .ref 85), (1, .int 9)]) (by decide +kernel) ⟨_, rfl, rfl⟩ (fun _ => by simp [lg_sl, j_v, Value.category]) (fun _ => rfl) ?_
  refine rn_iload_n dX11_told_0 rfl ?_
  refine rn_tableIn (tgt := 104) dX11_told_1 (by decide) (by decide) rfl rfl ?_
  refine rn_aload_n dX11_told_104 rfl ?_
  refine rnT_get (i := 0) hG dX11_told_105 fo_X11_55 rfl rfl ?_
  refine rn_callS dX11_told_108 cs_X11_121 c_X11_one_0 rfl (by decide) (by decide) rfl (Nat.le_of_ble_eq_true rfl) ?_
  exact rn_ret dX11_told_111 trivial rfl
set_option maxRecDepth 20000 in
theorem c_X11_told_10 {t : Int32} (hG : G.length = 84) : Cn l D ad tc L xs mX11_told 2 120 [.ref 85, .int 10] (G ++ (mdl (j_a0 D) t 0 0 ++ U), sl) (some (.int 0)) (G ++ (mdl (j_a0 D) t 0 0 ++ U), sl) := by
  refine cn_of (lv0 := [(0, .ref 85), (1, .int 10)]) (by decide +kernel) ⟨_, rfl, rfl⟩ (fun _ => by simp [lg_sl, j_v, Value.category]) (fun _ => rfl) ?_
  refine rn_iload_n dX11_told_0 rfl ?_
  refine rn_tableIn (tgt := 112) dX11_told_1 (by decide) (by decide) rfl rfl ?_
  refine rn_aload_n dX11_told_112 rfl ?_
  refine rnT_get (i := 0) hG dX11_told_113 fo_X11_82 rfl rfl ?_
  exact rn_ret dX11_told_116 trivial rfl
set_option maxRecDepth 20000 in
theorem c_X11_many_0 {t : Int32} (hG : G.length = 84) : Cn l D ad tc L xs mX11_many 3 180 [.ref 85, .int 0] (G ++ (mdl (j_a0 D) t 0 0 ++ U), sl) (some (.int 0)) (G ++ (mdl (j_a0 D) 0 0 0 ++ U), sl) := by
  refine cn_of (lv0 := [(0, .ref 85), (1, .int 0)]) (by decide +kernel) ⟨_, rfl, rfl⟩ (fun _ => by simp [lg_sl, j_v, Value.category]) (fun _ => rfl) ?_
  refine rn_aload_n dX11_many_0 rfl ?_
  refine rn_iload_n dX11_many_1 rfl ?_
  refine rn_iconst (v := 0) dX11_many_2 rfl ?_
  refine rn_bipush (v := 10) dX11_many_3 rfl ?_
  refine rn_callS dX11_many_5 cs_X11_41 c_X11_isIn rfl (by decide) (by decide) rfl (Nat.le_of_ble_eq_true rfl) ?_
  refine rn_topi (y := 1) (by decide) ?_
  refine rn_if_ne (tgt := 15) dX11_many_8 rfl (fun _ => ?_) (fun q => absurd q (by decide))
  refine rn_iconst (v := 0) dX11_many_15 rfl ?_
  refine rn_iconst (v := 1) dX11_many_16 rfl ?_
  refine rn_callV dX11_many_17 cv_X11_59 (c_X11_start_0 hG) rfl (gt_at (i := 0) hG rfl) rfl rfl (by decide) (by decide) rfl (Nat.le_of_ble_eq_true rfl) ?_
  refine rn_if_eq (tgt := 27) dX11_many_20 rfl (fun _ => ?_) (fun q => absurd (by decide) q)
  refine rn_aload_n dX11_many_27 rfl ?_
  refine rn_iload_n dX11_many_28 rfl ?_
  refine rn_callV dX11_many_29 cv_X11_224 (c_X11_told_0 hG) rfl (gt_at (i := 0) hG rfl) rfl rfl (by decide) (by decide) rfl (Nat.le_of_ble_eq_true rfl) ?_
  exact rn_ret dX11_many_32 trivial rfl
set_option maxRecDepth 20000 in
theorem c_X11_many_1 {t : Int32} (hG : G.length = 84) : Cn l D ad tc L xs mX11_many 3 180 [.ref 85, .int 1] (G ++ (mdl (j_a0 D) t 0 0 ++ U), sl) (some (.int 1)) (G ++ (mdl (j_a0 D) 0 0 0 ++ U), sl) := by
  refine cn_of (lv0 := [(0, .ref 85), (1, .int 1)]) (by decide +kernel) ⟨_, rfl, rfl⟩ (fun _ => by simp [lg_sl, j_v, Value.category]) (fun _ => rfl) ?_
  refine rn_aload_n dX11_many_0 rfl ?_
  refine rn_iload_n dX11_many_1 rfl ?_
  refine rn_iconst (v := 0) dX11_many_2 rfl ?_
  refine rn_bipush (v := 10) dX11_many_3 rfl ?_
  refine rn_callS dX11_many_5 cs_X11_41 c_X11_isIn rfl (by decide) (by decide) rfl (Nat.le_of_ble_eq_true rfl) ?_
  refine rn_topi (y := 1) (by decide) ?_
  refine rn_if_ne (tgt := 15) dX11_many_8 rfl (fun _ => ?_) (fun q => absurd q (by decide))
  refine rn_iconst (v := 0) dX11_many_15 rfl ?_
  refine rn_iconst (v := 1) dX11_many_16 rfl ?_
  refine rn_callV dX11_many_17 cv_X11_59 (c_X11_start_0 hG) rfl (gt_at (i := 0) hG rfl) rfl rfl (by decide) (by decide) rfl (Nat.le_of_ble_eq_true rfl) ?_
  refine rn_if_eq (tgt := 27) dX11_many_20 rfl (fun _ => ?_) (fun q => absurd (by decide) q)
  refine rn_aload_n dX11_many_27 rfl ?_
  refine rn_iload_n dX11_many_28 rfl ?_
  refine rn_callV dX11_many_29 cv_X11_224 (c_X11_told_1 hG) rfl (gt_at (i := 0) hG rfl) rfl rfl (by decide) (by decide) rfl (Nat.le_of_ble_eq_true rfl) ?_
  exact rn_ret dX11_many_32 trivial rfl
set_option maxRecDepth 20000 in
theorem c_X11_many_2 {t : Int32} (hG : G.length = 84) : Cn l D ad tc L xs mX11_many 3 180 [.ref 85, .int 2] (G ++ (mdl (j_a0 D) t 0 0 ++ U), sl) (some (.int 0)) (G ++ (mdl (j_a0 D) 0 0 0 ++ U), sl) := by
  refine cn_of (lv0 := [(0, .ref 85), (1, .int 2)]) (by decide +kernel) ⟨_, rfl, rfl⟩ (fun _ => by simp [lg_sl, j_v, Value.category]) (fun _ => rfl) ?_
  refine rn_aload_n dX11_many_0 rfl ?_
  refine rn_iload_n dX11_many_1 rfl ?_
  refine rn_iconst (v := 0) dX11_many_2 rfl ?_
  refine rn_bipush (v := 10) dX11_many_3 rfl ?_
  refine rn_callS dX11_many_5 cs_X11_41 c_X11_isIn rfl (by decide) (by decide) rfl (Nat.le_of_ble_eq_true rfl) ?_
  refine rn_topi (y := 1) (by decide) ?_
  refine rn_if_ne (tgt := 15) dX11_many_8 rfl (fun _ => ?_) (fun q => absurd q (by decide))
  refine rn_iconst (v := 0) dX11_many_15 rfl ?_
  refine rn_iconst (v := 1) dX11_many_16 rfl ?_
  refine rn_callV dX11_many_17 cv_X11_59 (c_X11_start_0 hG) rfl (gt_at (i := 0) hG rfl) rfl rfl (by decide) (by decide) rfl (Nat.le_of_ble_eq_true rfl) ?_
  refine rn_if_eq (tgt := 27) dX11_many_20 rfl (fun _ => ?_) (fun q => absurd (by decide) q)
  refine rn_aload_n dX11_many_27 rfl ?_
  refine rn_iload_n dX11_many_28 rfl ?_
  refine rn_callV dX11_many_29 cv_X11_224 (c_X11_told_2 hG) rfl (gt_at (i := 0) hG rfl) rfl rfl (by decide) (by decide) rfl (Nat.le_of_ble_eq_true rfl) ?_
  exact rn_ret dX11_many_32 trivial rfl
set_option maxRecDepth 20000 in
theorem c_X11_many_3 {t : Int32} (hG : G.length = 84) : Cn l D ad tc L xs mX11_many 3 180 [.ref 85, .int 3] (G ++ (mdl (j_a0 D) t 0 0 ++ U), sl) (some (.int 0)) (G ++ (mdl (j_a0 D) 0 0 0 ++ U), sl) := by
  refine cn_of (lv0 := [(0, .ref 85), (1, .int 3)]) (by decide +kernel) ⟨_, rfl, rfl⟩ (fun _ => by simp [lg_sl, j_v, Value.category]) (fun _ => rfl) ?_
  refine rn_aload_n dX11_many_0 rfl ?_
  refine rn_iload_n dX11_many_1 rfl ?_
  refine rn_iconst (v := 0) dX11_many_2 rfl ?_
  refine rn_bipush (v := 10) dX11_many_3 rfl ?_
  refine rn_callS dX11_many_5 cs_X11_41 c_X11_isIn rfl (by decide) (by decide) rfl (Nat.le_of_ble_eq_true rfl) ?_
  refine rn_topi (y := 1) (by decide) ?_
  refine rn_if_ne (tgt := 15) dX11_many_8 rfl (fun _ => ?_) (fun q => absurd q (by decide))
  refine rn_iconst (v := 0) dX11_many_15 rfl ?_
  refine rn_iconst (v := 1) dX11_many_16 rfl ?_
  refine rn_callV dX11_many_17 cv_X11_59 (c_X11_start_0 hG) rfl (gt_at (i := 0) hG rfl) rfl rfl (by decide) (by decide) rfl (Nat.le_of_ble_eq_true rfl) ?_
  refine rn_if_eq (tgt := 27) dX11_many_20 rfl (fun _ => ?_) (fun q => absurd (by decide) q)
  refine rn_aload_n dX11_many_27 rfl ?_
  refine rn_iload_n dX11_many_28 rfl ?_
  refine rn_callV dX11_many_29 cv_X11_224 (c_X11_told_3 hG) rfl (gt_at (i := 0) hG rfl) rfl rfl (by decide) (by decide) rfl (Nat.le_of_ble_eq_true rfl) ?_
  exact rn_ret dX11_many_32 trivial rfl
set_option maxRecDepth 20000 in
theorem c_X11_many_4 {t : Int32} (hG : G.length = 84) : Cn l D ad tc L xs mX11_many 3 180 [.ref 85, .int 4] (G ++ (mdl (j_a0 D) t 0 0 ++ U), sl) (some (.int 0)) (G ++ (mdl (j_a0 D) 0 0 0 ++ U), sl) := by
  refine cn_of (lv0 := [(0, .ref 85), (1, .int 4)]) (by decide +kernel) ⟨_, rfl, rfl⟩ (fun _ => by simp [lg_sl, j_v, Value.category]) (fun _ => rfl) ?_
  refine rn_aload_n dX11_many_0 rfl ?_
  refine rn_iload_n dX11_many_1 rfl ?_
  refine rn_iconst (v := 0) dX11_many_2 rfl ?_
  refine rn_bipush (v := 10) dX11_many_3 rfl ?_
  refine rn_callS dX11_many_5 cs_X11_41 c_X11_isIn rfl (by decide) (by decide) rfl (Nat.le_of_ble_eq_true rfl) ?_
  refine rn_topi (y := 1) (by decide) ?_
  refine rn_if_ne (tgt := 15) dX11_many_8 rfl (fun _ => ?_) (fun q => absurd q (by decide))
  refine rn_iconst (v := 0) dX11_many_15 rfl ?_
  refine rn_iconst (v := 1) dX11_many_16 rfl ?_
  refine rn_callV dX11_many_17 cv_X11_59 (c_X11_start_0 hG) rfl (gt_at (i := 0) hG rfl) rfl rfl (by decide) (by decide) rfl (Nat.le_of_ble_eq_true rfl) ?_
  refine rn_if_eq (tgt := 27) dX11_many_20 rfl (fun _ => ?_) (fun q => absurd (by decide) q)
  refine rn_aload_n dX11_many_27 rfl ?_
  refine rn_iload_n dX11_many_28 rfl ?_
  refine rn_callV dX11_many_29 cv_X11_224 (c_X11_told_4 hG) rfl (gt_at (i := 0) hG rfl) rfl rfl (by decide) (by decide) rfl (Nat.le_of_ble_eq_true rfl) ?_
  exact rn_ret dX11_many_32 trivial rfl
set_option maxRecDepth 20000 in
theorem c_X11_many_5 {t : Int32} (hG : G.length = 84) : Cn l D ad tc L xs mX11_many 3 180 [.ref 85, .int 5] (G ++ (mdl (j_a0 D) t 0 0 ++ U), sl) (some (.int 0)) (G ++ (mdl (j_a0 D) 0 0 0 ++ U), sl) := by
  refine cn_of (lv0 := [(0, .ref 85), (1, .int 5)]) (by decide +kernel) ⟨_, rfl, rfl⟩ (fun _ => by simp [lg_sl, j_v, Value.category]) (fun _ => rfl) ?_
  refine rn_aload_n dX11_many_0 rfl ?_
  refine rn_iload_n dX11_many_1 rfl ?_
  refine rn_iconst (v := 0) dX11_many_2 rfl ?_
  refine rn_bipush (v := 10) dX11_many_3 rfl ?_
  refine rn_callS dX11_many_5 cs_X11_41 c_X11_isIn rfl (by decide) (by decide) rfl (Nat.le_of_ble_eq_true rfl) ?_
  refine rn_topi (y := 1) (by decide) ?_
  refine rn_if_ne (tgt := 15) dX11_many_8 rfl (fun _ => ?_) (fun q => absurd q (by decide))
  refine rn_iconst (v := 0) dX11_many_15 rfl ?_
  refine rn_iconst (v := 1) dX11_many_16 rfl ?_
  refine rn_callV dX11_many_17 cv_X11_59 (c_X11_start_0 hG) rfl (gt_at (i := 0) hG rfl) rfl rfl (by decide) (by decide) rfl (Nat.le_of_ble_eq_true rfl) ?_
  refine rn_if_eq (tgt := 27) dX11_many_20 rfl (fun _ => ?_) (fun q => absurd (by decide) q)
  refine rn_aload_n dX11_many_27 rfl ?_
  refine rn_iload_n dX11_many_28 rfl ?_
  refine rn_callV dX11_many_29 cv_X11_224 (c_X11_told_5 hG) rfl (gt_at (i := 0) hG rfl) rfl rfl (by decide) (by decide) rfl (Nat.le_of_ble_eq_true rfl) ?_
  exact rn_ret dX11_many_32 trivial rfl
set_option maxRecDepth 20000 in
theorem c_X11_many_6 {t : Int32} (hG : G.length = 84) : Cn l D ad tc L xs mX11_many 3 180 [.ref 85, .int 6] (G ++ (mdl (j_a0 D) t 0 0 ++ U), sl) (some (.int 0)) (G ++ (mdl (j_a0 D) 0 0 0 ++ U), sl) := by
  refine cn_of (lv0 := [(0, .ref 85), (1, .int 6)]) (by decide +kernel) ⟨_, rfl, rfl⟩ (fun _ => by simp [lg_sl, j_v, Value.category]) (fun _ => rfl) ?_
  refine rn_aload_n dX11_many_0 rfl ?_
  refine rn_iload_n dX11_many_1 rfl ?_
  refine rn_iconst (v := 0) dX11_many_2 rfl ?_
  refine rn_bipush (v := 10) dX11_many_3 rfl ?_
  refine rn_callS dX11_many_5 cs_X11_41 c_X11_isIn rfl (by decide) (by decide) rfl (Nat.le_of_ble_eq_true rfl) ?_
  refine rn_topi (y := 1) (by decide) ?_
  refine rn_if_ne (tgt := 15) dX11_many_8 rfl (fun _ => ?_) (fun q => absurd q (by decide))
  refine rn_iconst (v := 0) dX11_many_15 rfl ?_
  refine rn_iconst (v := 1) dX11_many_16 rfl ?_
  refine rn_callV dX11_many_17 cv_X11_59 (c_X11_start_0 hG) rfl (gt_at (i := 0) hG rfl) rfl rfl (by decide) (by decide) rfl (Nat.le_of_ble_eq_true rfl) ?_
  refine rn_if_eq (tgt := 27) dX11_many_20 rfl (fun _ => ?_) (fun q => absurd (by decide) q)
  refine rn_aload_n dX11_many_27 rfl ?_
  refine rn_iload_n dX11_many_28 rfl ?_
  refine rn_callV dX11_many_29 cv_X11_224 (c_X11_told_6 hG) rfl (gt_at (i := 0) hG rfl) rfl rfl (by decide) (by decide) rfl (Nat.le_of_ble_eq_true rfl) ?_
  exact rn_ret dX11_many_32 trivial rfl
set_option maxRecDepth 20000 in
theorem c_X11_many_7 {t : Int32} (hG : G.length = 84) : Cn l D ad tc L xs mX11_many 3 180 [.ref 85, .int 7] (G ++ (mdl (j_a0 D) t 0 0 ++ U), sl) (some (.int 0)) (G ++ (mdl (j_a0 D) 0 0 0 ++ U), sl) := by
  refine cn_of (lv0 := [(0, .ref 85), (1, .int 7)]) (by decide +kernel) ⟨_, rfl, rfl⟩ (fun _ => by simp [lg_sl, j_v, Value.category]) (fun _ => rfl) ?_
  refine rn_aload_n dX11_many_0 rfl ?_
  refine rn_iload_n dX11_many_1 rfl ?_
  refine rn_iconst (v := 0) dX11_many_2 rfl ?_
  refine rn_bipush (v := 10) dX11_many_3 rfl ?_
  refine rn_callS dX11_many_5 cs_X11_41 c_X11_isIn rfl (by decide) (by decide) rfl (Nat.le_of_ble_eq_true rfl) ?_
  refine rn_topi (y := 1) (by decide) ?_
  refine rn_if_ne (tgt := 15) dX11_many_8 rfl (fun _ => ?_) (fun q => absurd q (by decide))
  refine rn_iconst (v := 0) dX11_many_15 rfl ?_
  refine rn_iconst (v := 1) dX11_many_16 rfl ?_
  refine rn_callV dX11_many_17 cv_X11_59 (c_X11_start_0 hG) rfl (gt_at (i := 0) hG rfl) rfl rfl (by decide) (by decide) rfl (Nat.le_of_ble_eq_true rfl) ?_
  refine rn_if_eq (tgt := 27) dX11_many_20 rfl (fun _ => ?_) (fun q => absurd (by decide) q)
  refine rn_aload_n dX11_many_27 rfl ?_
  refine rn_iload_n dX11_many_28 rfl ?_
  refine rn_callV dX11_many_29 cv_X11_224 (c_X11_told_7 hG) rfl (gt_at (i := 0) hG rfl) rfl rfl (by decide) (by decide) rfl (Nat.le_of_ble_eq_true rfl) ?_
  exact rn_ret dX11_many_32 trivial rfl
set_option maxRecDepth 20000 in
theorem c_X11_many_8 {t : Int32} (hG : G.length = 84) : Cn l D ad tc L xs mX11_many 3 180 [.ref 85, .int 8] (G ++ (mdl (j_a0 D) t 0 0 ++ U), sl) (some (.int 0)) (G ++ (mdl (j_a0 D) 0 0 0 ++ U), sl) := by
  refine cn_of (lv0 := [(0, .ref 85), (1, .int 8)]) (by decide +kernel) ⟨_, rfl, rfl⟩ (fun _ => by simp [lg_sl, j_v, Value.category]) (fun _ => rfl) ?_
  refine rn_aload_n dX11_many_0 rfl ?_
  refine rn_iload_n dX11_many_1 rfl ?_
  refine rn_iconst (v := 0) dX11_many_2 rfl ?_
  refine rn_bipush (v := 10) dX11_many_3 rfl ?_
  refine rn_callS dX11_many_5 cs_X11_41 c_X11_isIn rfl (by decide) (by decide) rfl (Nat.le_of_ble_eq_true rfl) ?_
  refine rn_topi (y := 1) (by decide) ?_
  refine rn_if_ne (tgt := 15) dX11_many_8 rfl (fun _ => ?_) (fun q => absurd q (by decide))
  refine rn_iconst (v := 0) dX11_many_15 rfl ?_
  refine rn_iconst (v := 1) dX11_many_16 rfl ?_
  refine rn_callV dX11_many_17 cv_X11_59 (c_X11_start_0 hG) rfl (gt_at (i := 0) hG rfl) rfl rfl (by decide) (by decide) rfl (Nat.le_of_ble_eq_true rfl) ?_
  refine rn_if_eq (tgt := 27) dX11_many_20 rfl (fun _ => ?_) (fun q => absurd (by decide) q)
  refine rn_aload_n dX11_many_27 rfl ?_
  refine rn_iload_n dX11_many_28 rfl ?_
  refine rn_callV dX11_many_29 cv_X11_224 (c_X11_told_8 hG) rfl (gt_at (i := 0) hG rfl) rfl rfl (by decide) (by decide) rfl (Nat.le_of_ble_eq_true rfl) ?_
  exact rn_ret dX11_many_32 trivial rfl
set_option maxRecDepth 20000 in
theorem c_X11_many_9 {t : Int32} (hG : G.length = 84) : Cn l D ad tc L xs mX11_many 3 180 [.ref 85, .int 9] (G ++ (mdl (j_a0 D) t 0 0 ++ U), sl) (some (.int 0)) (G ++ (mdl (j_a0 D) 0 0 0 ++ U), sl) := by
  refine cn_of (lv0 := [(0, .ref 85), (1, .int 9)]) (by decide +kernel) ⟨_, rfl, rfl⟩ (fun _ => by simp [lg_sl, j_v, Value.category]) (fun _ => rfl) ?_
  refine rn_aload_n dX11_many_0 rfl ?_
  refine rn_iload_n dX11_many_1 rfl ?_
  refine rn_iconst (v := 0) dX11_many_2 rfl ?_
  refine rn_bipush (v := 10) dX11_many_3 rfl ?_
  refine rn_callS dX11_many_5 cs_X11_41 c_X11_isIn rfl (by decide) (by decide) rfl (Nat.le_of_ble_eq_true rfl) ?_
  refine rn_topi (y := 1) (by decide) ?_
  refine rn_if_ne (tgt := 15) dX11_many_8 rfl (fun _ => ?_) (fun q => absurd q (by decide))
  refine rn_iconst (v := 0) dX11_many_15 rfl ?_
  refine rn_iconst (v := 1) dX11_many_16 rfl ?_
  refine rn_callV dX11_many_17 cv_X11_59 (c_X11_start_0 hG) rfl (gt_at (i := 0) hG rfl) rfl rfl (by decide) (by decide) rfl (Nat.le_of_ble_eq_true rfl) ?_
  refine rn_if_eq (tgt := 27) dX11_many_20 rfl (fun _ => ?_) (fun q => absurd (by decide) q)
  refine rn_aload_n dX11_many_27 rfl ?_
  refine rn_iload_n dX11_many_28 rfl ?_
  refine rn_callV dX11_many_29 cv_X11_224 (c_X11_told_9 hG) rfl (gt_at (i := 0) hG rfl) rfl rfl (by decide) (by decide) rfl (Nat.le_of_ble_eq_true rfl) ?_
  exact rn_ret dX11_many_32 trivial rfl
set_option maxRecDepth 20000 in
theorem c_X11_many_10 {t : Int32} (hG : G.length = 84) : Cn l D ad tc L xs mX11_many 3 180 [.ref 85, .int 10] (G ++ (mdl (j_a0 D) t 0 0 ++ U), sl) (some (.int 0)) (G ++ (mdl (j_a0 D) 0 0 0 ++ U), sl) := by
  refine cn_of (lv0 := [(0, .ref 85), (1, .int 10)]) (by decide +kernel) ⟨_, rfl, rfl⟩ (fun _ => by simp [lg_sl, j_v, Value.category]) (fun _ => rfl) ?_
  refine rn_aload_n dX11_many_0 rfl ?_
  refine rn_iload_n dX11_many_1 rfl ?_
  refine rn_iconst (v := 0) dX11_many_2 rfl ?_
  refine rn_bipush (v := 10) dX11_many_3 rfl ?_
  refine rn_callS dX11_many_5 cs_X11_41 c_X11_isIn rfl (by decide) (by decide) rfl (Nat.le_of_ble_eq_true rfl) ?_
  refine rn_topi (y := 1) (by decide) ?_
  refine rn_if_ne (tgt := 15) dX11_many_8 rfl (fun _ => ?_) (fun q => absurd q (by decide))
  refine rn_iconst (v := 0) dX11_many_15 rfl ?_
  refine rn_iconst (v := 1) dX11_many_16 rfl ?_
  refine rn_callV dX11_many_17 cv_X11_59 (c_X11_start_0 hG) rfl (gt_at (i := 0) hG rfl) rfl rfl (by decide) (by decide) rfl (Nat.le_of_ble_eq_true rfl) ?_
  refine rn_if_eq (tgt := 27) dX11_many_20 rfl (fun _ => ?_) (fun q => absurd (by decide) q)
  refine rn_aload_n dX11_many_27 rfl ?_
  refine rn_iload_n dX11_many_28 rfl ?_
  refine rn_callV dX11_many_29 cv_X11_224 (c_X11_told_10 hG) rfl (gt_at (i := 0) hG rfl) rfl rfl (by decide) (by decide) rfl (Nat.le_of_ble_eq_true rfl) ?_
  exact rn_ret dX11_many_32 trivial rfl
set_option maxRecDepth 20000 in
theorem c_X11_many_no {a t : Int32} (hG : G.length = 84) (hk : ¬ (0 ≤ a ∧ a ≤ 10)) : Cn l D ad tc L xs mX11_many 3 180 [.ref 85, .int a] (G ++ (mdl (j_a0 D) t 0 0 ++ U), sl) (some (.int 0)) (G ++ (mdl (j_a0 D) 1 0 0 ++ U), sl) := by
  refine cn_of (lv0 := [(0, .ref 85), (1, .int a)]) (by decide +kernel) ⟨_, rfl, rfl⟩ (fun _ => by simp [lg_sl, j_v, Value.category]) (fun _ => rfl) ?_
  refine rn_aload_n dX11_many_0 rfl ?_
  refine rn_iload_n dX11_many_1 rfl ?_
  refine rn_iconst (v := 0) dX11_many_2 rfl ?_
  refine rn_bipush (v := 10) dX11_many_3 rfl ?_
  refine rn_callS dX11_many_5 cs_X11_41 c_X11_isIn rfl (by decide) (by decide) rfl (Nat.le_of_ble_eq_true rfl) ?_
  refine rn_topi (y := 0) (by rw [bI_0, decide_eq_false_iff_not]; exact hk) ?_
  refine rn_if_ne (tgt := 15) dX11_many_8 rfl (fun q => absurd q (by decide)) (fun _ => ?_)
  refine rn_iconst (v := 1) dX11_many_11 rfl ?_
  refine rn_goto (tgt := 16) dX11_many_12 rfl ?_
  refine rn_iconst (v := 1) dX11_many_16 rfl ?_
  refine rn_callV dX11_many_17 cv_X11_59 (c_X11_start_1 hG (by decide)) rfl (gt_at (i := 0) hG rfl) rfl rfl (by decide) (by decide) rfl (Nat.le_of_ble_eq_true rfl) ?_
  refine rn_if_eq (tgt := 27) dX11_many_20 rfl (fun q => absurd q (by decide)) (fun _ => ?_)
  refine rn_iconst (v := 0) dX11_many_23 rfl ?_
  refine rn_goto (tgt := 32) dX11_many_24 rfl ?_
  exact rn_ret dX11_many_32 trivial rfl
set_option maxRecDepth 20000 in
theorem c_X11_isIdle_0 {t : Int32} (hG : G.length = 84) : Cn l D ad tc L xs mX11_isIdle 6 500 [.ref 85, .int 0] (G ++ (mdl (j_a0 D) t 0 0 ++ U), sl) (some (.int 0)) (G ++ (mdl (j_a0 D) 0 0 0 ++ U), sl) := by
  refine cn_of (lv0 := [(0, .ref 85), (1, .int 0)]) (by decide +kernel) ⟨_, rfl, rfl⟩ (fun _ => by simp [lg_sl, j_v, Value.category]) (fun _ => rfl) ?_
  refine rn_aload_n dX11_isIdle_0 rfl ?_
  refine rn_aload_n dX11_isIdle_1 rfl ?_
  refine rn_iload_n dX11_isIdle_2 rfl ?_
  refine rn_callV dX11_isIdle_3 cv_X11_181 (c_X11_isNoCorner_0 hG) rfl (gt_at (i := 0) hG rfl) rfl rfl (by decide) (by decide) rfl (Nat.le_of_ble_eq_true rfl) ?_
  refine rn_iconst (v := 1) dX11_isIdle_6 rfl ?_
  refine rn_callV dX11_isIdle_7 cv_X11_59 (c_X11_start_0 hG) rfl (gt_at (i := 0) hG rfl) rfl rfl (by decide) (by decide) rfl (Nat.le_of_ble_eq_true rfl) ?_
  refine rn_if_eq (tgt := 15) dX11_isIdle_10 rfl (fun _ => ?_) (fun q => absurd (by decide) q)
  refine rn_iconst (v := 0) dX11_isIdle_15 rfl ?_
  refine rn_istore_n dX11_isIdle_16 (by decide) rfl ?_
  refine rn_iload_n dX11_isIdle_17 rfl ?_
  refine rn_aload_n dX11_isIdle_18 rfl ?_
  refine rnT_get (i := 0) hG dX11_isIdle_19 fo_X11_16 rfl rfl ?_
  refine rn_callV dX11_isIdle_22 cv_X11_37 (c_AL_size (i := 86) (gt_at (i := 2) hG rfl)) rfl (gt_at (i := 2) hG rfl) rfl rfl (by decide) (by decide) rfl (Nat.le_of_ble_eq_true rfl) ?_
  refine rn_icmp_ge (tgt := 50) dX11_isIdle_25 rfl (fun q => absurd q (by decide)) (fun _ => ?_)
  refine rn_iload_n dX11_isIdle_28 rfl ?_
  refine rn_iload_n dX11_isIdle_29 rfl ?_
  refine rn_icmp_eq (tgt := 44) dX11_isIdle_30 rfl (fun _ => ?_) (fun q => absurd (by decide) q)
  refine rn_iinc (v := 1) dX11_isIdle_44 rfl (by decide) (by decide) rfl ?_
  refine rn_goto (tgt := 17) dX11_isIdle_47 rfl ?_
  refine rn_iload_n dX11_isIdle_17 rfl ?_
  refine rn_aload_n dX11_isIdle_18 rfl ?_
  refine rnT_get (i := 0) hG dX11_isIdle_19 fo_X11_16 rfl rfl ?_
  refine rn_callV dX11_isIdle_22 cv_X11_37 (c_AL_size (i := 86) (gt_at (i := 2) hG rfl)) rfl (gt_at (i := 2) hG rfl) rfl rfl (by decide) (by decide) rfl (Nat.le_of_ble_eq_true rfl) ?_
  refine rn_icmp_ge (tgt := 50) dX11_isIdle_25 rfl (fun _ => ?_) (fun q => absurd (by decide) q)
  refine rn_iconst (v := 0) dX11_isIdle_50 rfl ?_
  exact rn_ret dX11_isIdle_51 trivial rfl
set_option maxRecDepth 20000 in
theorem c_X11_isIdle_1 {a t : Int32} (hG : G.length = 84) (ha : ¬ a = 0) : Cn l D ad tc L xs mX11_isIdle 6 500 [.ref 85, .int a] (G ++ (mdl (j_a0 D) t 0 0 ++ U), sl) (some (.int 0)) (G ++ (mdl (j_a0 D) 1 0 0 ++ U), sl) := by
  refine cn_of (lv0 := [(0, .ref 85), (1, .int a)]) (by decide +kernel) ⟨_, rfl, rfl⟩ (fun _ => by simp [lg_sl, j_v, Value.category]) (fun _ => rfl) ?_
  refine rn_aload_n dX11_isIdle_0 rfl ?_
  refine rn_aload_n dX11_isIdle_1 rfl ?_
  refine rn_iload_n dX11_isIdle_2 rfl ?_
  refine rn_callV dX11_isIdle_3 cv_X11_181 (c_X11_isNoCorner_1 hG ha) rfl (gt_at (i := 0) hG rfl) rfl rfl (by decide) (by decide) rfl (Nat.le_of_ble_eq_true rfl) ?_
  refine rn_iconst (v := 1) dX11_isIdle_6 rfl ?_
  refine rn_callV dX11_isIdle_7 cv_X11_59 (c_X11_start_1 hG (by decide)) rfl (gt_at (i := 0) hG rfl) rfl rfl (by decide) (by decide) rfl (Nat.le_of_ble_eq_true rfl) ?_
  refine rn_if_eq (tgt := 15) dX11_isIdle_10 rfl (fun q => absurd q (by decide)) (fun _ => ?_)
  refine rn_iconst (v := 0) dX11_isIdle_13 rfl ?_
  exact rn_ret dX11_isIdle_14 trivial rfl
/-- what a Look leaves behind: itself, and its empty rows -/
def lkT (a : Nat) : List j_C := [.inr (10, [.int 0, .ref (a + 1 + 1), .ref (a + 4 + 1), .ref (a + 5 + 1), .ref (a + 6 + 1), .ref 85]), .inl (10, 2, .inr (.inr (.inr (.inr (fun j => if j < 2 then some (a + 1 + 2 + j) else none))))), .inl (1, 0, .inr (.inr (.inr (.inl (fun _ => 0))))), .inl (1, 0, .inr (.inr (.inr (.inl (fun _ => 0))))), .inl (11, 0, .inr (.inr (.inr (.inr (fun _ => none))))), .inl (11, 0, .inr (.inr (.inr (.inr (fun _ => none))))), .inl (1, 0, .inr (.inr (.inr (.inl (fun _ => 0)))))]
theorem rnT_multi {idx t a : Nat} {T : List j_C} (ha : G.length = a) (ht : T.length = t) (hd : decode M.2.1 pc = .ok (.multianewarray idx 2, 4)) (hw : Cond.classLink M.1.cls idx "[[D" ∈ j_all) (hw2 : Cond.arrayClass .double ∈ j_all)
    (kk : Rn l D ad tc L xs M d lo (pc + 4) lv (.ref (a + t + 1) :: st) (G ++ (T ++ [.inl (10, 2, .inr (.inr (.inr (.inr (fun j => if j < 2 then some (a + t + 2 + j) else none))))), .inl (1, 0, .inr (.inr (.inr (.inl (fun _ => 0))))), .inl (1, 0, .inr (.inr (.inr (.inl (fun _ => 0)))))]), sl + 2) r h') : Rn l D ad tc L xs M d lo pc lv (.int 0 :: .int 2 :: st) (G ++ T, sl) r h' := by
  refine rn_multi hd hw hw2 ?_
  rw [List.length_append, ha, ht, List.append_assoc]
  exact kk
theorem rnT_anewA {idx N t a : Nat} {T : List j_C} {n : Int32} (ha : G.length = a) (ht : T.length = t) (hd : decode M.2.1 pc = .ok (.anewarray idx, 3)) (hw : Cond.classLink M.1.cls idx "[[D" ∈ j_all) (hn : ¬ n < 0) (hN : n.toNatClampNeg = N) (hby : N * 4 ≤ 536870912)
    (kk : Rn l D ad tc L xs M d lo (pc + 3) lv (.ref (a + t + 1) :: st) (G ++ (T ++ [.inl (11, N, .inr (.inr (.inr (.inr (fun _ => none)))))]), sl + N) r h') : Rn l D ad tc L xs M d lo pc lv (.int n :: st) (G ++ T, sl) r h' := by
  refine rn_anewA hd hw hn hN hby ?_
  rw [List.length_append, ha, ht, List.append_assoc]
  exact kk
theorem gl_at {T : List j_C} {i : Nat} {c : j_C} (h : G[i]? = some c) : (G ++ T)[i]? = some c := by
  rw [List.getElem?_append_left (List.getElem?_eq_some_iff.mp h).1]
  exact h
set_option maxRecDepth 20000 in
theorem c_X10_init {a : Nat} {fs : List Value} {m : Int32} {e : Value} (ha : G.length = a) (hm : G[84]? = some (.inr (11, fs))) (hf : fs[3]? = some (.ref 88)) (hn : G[87]? = some (.inr (12, [.int m, e, .int 0]))) : Cn l D ad tc L xs mX10_init 1 60 [.ref (a + 0 + 1), .ref 85, .int 0] (G ++ [.inr (10, [.int 0, .null, .null, .null, .null, .null])], sl) none (G ++ lkT a, sl + 2) := by
  refine cn_of (lv0 := [(0, .ref (a + 0 + 1)), (1, .ref 85), (2, .int 0)]) (by decide +kernel) rfl (fun _ => by simp [lg_sl, j_v, Value.category]) (fun _ => rfl) ?_
  refine rn_aload_n dX10_init_0 rfl ?_
  refine rn_aload_n dX10_init_1 rfl ?_
  refine rnT_put (i := 0) ha dX10_init_2 fp_X10_3 rfl (by simp) (fun _ => ⟨rfl, rfl⟩) (Or.inl rfl) ?_
  refine rn_aload_n dX10_init_5 rfl ?_
  refine rn_objInit dX10_init_6 wd_639 wd_0 wd_1 (by decide) (by decide) (by decide) ?_
  refine rn_aload_n dX10_init_9 rfl ?_
  refine rn_iconst (v := 2) dX10_init_10 rfl ?_
  refine rn_aload_n dX10_init_11 rfl ?_
  refine rnT_get (i := 0) ha dX10_init_12 fo_X10_3 rfl rfl ?_
  refine rn_getfieldN dX10_init_15 fon_X10_15 (gl_at hm) hf ?_
  refine rn_callV dX10_init_18 cv_X10_19 (c_AL_size (i := 87) (gl_at hn)) rfl (gl_at hn) rfl rfl (by decide) (by decide) rfl (Nat.le_of_ble_eq_true rfl) ?_
  refine rnT_multi (t := 1) ha rfl dX10_init_21 wd_642 wd_155 ?_
  refine rnT_put (i := 0) ha dX10_init_25 fp_X10_27 rfl (by simp) (fun _ => ⟨rfl, rfl⟩) (Or.inl rfl) ?_
  refine rn_aload_n dX10_init_28 rfl ?_
  refine rn_aload_n dX10_init_29 rfl ?_
  refine rnT_get (i := 0) ha dX10_init_30 fo_X10_3 rfl rfl ?_
  refine rn_getfieldN dX10_init_33 fon_X10_15 (gl_at hm) hf ?_
  refine rn_callV dX10_init_36 cv_X10_19 (c_AL_size (i := 87) (gl_at hn)) rfl (gl_at hn) rfl rfl (by decide) (by decide) rfl (Nat.le_of_ble_eq_true rfl) ?_
  refine rnT_anewA (t := 4) (N := 0) ha rfl dX10_init_39 wd_642 (by decide) (by decide) (by decide) ?_
  refine rnT_put (i := 0) ha dX10_init_42 fp_X10_30 rfl (by simp) (fun _ => ⟨rfl, rfl⟩) (Or.inl rfl) ?_
  refine rn_aload_n dX10_init_45 rfl ?_
  refine rn_aload_n dX10_init_46 rfl ?_
  refine rnT_get (i := 0) ha dX10_init_47 fo_X10_3 rfl rfl ?_
  refine rn_getfieldN dX10_init_50 fon_X10_15 (gl_at hm) hf ?_
  refine rn_callV dX10_init_53 cv_X10_19 (c_AL_size (i := 87) (gl_at hn)) rfl (gl_at hn) rfl rfl (by decide) (by decide) rfl (Nat.le_of_ble_eq_true rfl) ?_
  refine rnT_anewA (t := 5) (N := 0) ha rfl dX10_init_56 wd_642 (by decide) (by decide) (by decide) ?_
  refine rnT_put (i := 0) ha dX10_init_59 fp_X10_34 rfl (by simp) (fun _ => ⟨rfl, rfl⟩) (Or.inl rfl) ?_
  refine rn_aload_n dX10_init_62 rfl ?_
  refine rn_aload_n dX10_init_63 rfl ?_
  refine rnT_get (i := 0) ha dX10_init_64 fo_X10_3 rfl rfl ?_
  refine rn_getfieldN dX10_init_67 fon_X10_15 (gl_at hm) hf ?_
  refine rn_callV dX10_init_70 cv_X10_19 (c_AL_size (i := 87) (gl_at hn)) rfl (gl_at hn) rfl rfl (by decide) (by decide) rfl (Nat.le_of_ble_eq_true rfl) ?_
  refine rnT_newarr (t := 1) (N := 0) (u := 6) (f := (0, .inr (.inr (.inr (.inl (fun _ => 0)))))) ha rfl dX10_init_73 rfl wd_155 (by decide) (by decide) (by decide) (fun _ => rfl) (fun _ _ => rfl) ?_
  refine rnT_put (i := 0) ha dX10_init_75 fp_X10_37 rfl (by simp) (fun _ => ⟨rfl, rfl⟩) (Or.inl rfl) ?_
  refine rn_aload_n dX10_init_78 rfl ?_
  refine rn_iload_n dX10_init_79 rfl ?_
  refine rnT_put (i := 0) ha dX10_init_80 fp_X10_41 rfl (by simp) (fun _ => ⟨rfl, rfl⟩) (Or.inl rfl) ?_
  refine rn_iconst (v := 0) dX10_init_83 rfl ?_
  refine rn_istore_n dX10_init_84 (by decide) rfl ?_
  refine rn_iload_n dX10_init_85 rfl ?_
  refine rn_iconst (v := 2) dX10_init_86 rfl ?_
  refine rn_icmp_ge (tgt := 133) dX10_init_87 rfl (fun q => absurd q (by decide)) (fun _ => ?_)
  refine rn_iconst (v := 0) dX10_init_90 rfl ?_
  refine rn_istore dX10_init_91 (by decide) rfl ?_
  refine rn_iload dX10_init_93 rfl ?_
  refine rn_aload_n dX10_init_95 rfl ?_
  refine rn_getfieldN dX10_init_96 fon_X10_15 (gl_at hm) hf ?_
  refine rn_callV dX10_init_99 cv_X10_19 (c_AL_size (i := 87) (gl_at hn)) rfl (gl_at hn) rfl rfl (by decide) (by decide) rfl (Nat.le_of_ble_eq_true rfl) ?_
  refine rn_icmp_ge (tgt := 127) dX10_init_102 rfl (fun _ => ?_) (fun q => absurd (by decide) q)
  refine rn_iinc (v := 1) dX10_init_127 rfl (by decide) (by decide) rfl ?_
  refine rn_goto (tgt := 85) dX10_init_130 rfl ?_
  refine rn_iload_n dX10_init_85 rfl ?_
  refine rn_iconst (v := 2) dX10_init_86 rfl ?_
  refine rn_icmp_ge (tgt := 133) dX10_init_87 rfl (fun q => absurd q (by decide)) (fun _ => ?_)
  refine rn_iconst (v := 0) dX10_init_90 rfl ?_
  refine rn_istore dX10_init_91 (by decide) rfl ?_
  refine rn_iload dX10_init_93 rfl ?_
  refine rn_aload_n dX10_init_95 rfl ?_
  refine rn_getfieldN dX10_init_96 fon_X10_15 (gl_at hm) hf ?_
  refine rn_callV dX10_init_99 cv_X10_19 (c_AL_size (i := 87) (gl_at hn)) rfl (gl_at hn) rfl rfl (by decide) (by decide) rfl (Nat.le_of_ble_eq_true rfl) ?_
  refine rn_icmp_ge (tgt := 127) dX10_init_102 rfl (fun _ => ?_) (fun q => absurd (by decide) q)
  refine rn_iinc (v := 2) dX10_init_127 rfl (by decide) (by decide) rfl ?_
  refine rn_goto (tgt := 85) dX10_init_130 rfl ?_
  refine rn_iload_n dX10_init_85 rfl ?_
  refine rn_iconst (v := 2) dX10_init_86 rfl ?_
  refine rn_icmp_ge (tgt := 133) dX10_init_87 rfl (fun _ => ?_) (fun q => absurd (by decide) q)
  refine rn_iconst (v := 0) dX10_init_133 rfl ?_
  refine rn_istore_n dX10_init_134 (by decide) rfl ?_
  refine rn_iload_n dX10_init_135 rfl ?_
  refine rn_aload_n dX10_init_136 rfl ?_
  refine rn_getfieldN dX10_init_137 fon_X10_15 (gl_at hm) hf ?_
  refine rn_callV dX10_init_140 cv_X10_19 (c_AL_size (i := 87) (gl_at hn)) rfl (gl_at hn) rfl rfl (by decide) (by decide) rfl (Nat.le_of_ble_eq_true rfl) ?_
  refine rn_icmp_ge (tgt := 173) dX10_init_143 rfl (fun _ => ?_) (fun q => absurd (by decide) q)
  exact rn_ret dX10_init_173 trivial rfl
set_option maxRecDepth 20000 in
theorem c_X11_leastOf {a t : Int32} (hG : G.length = 84) (hU : U.length = u) : Cn l D ad tc L xs mX11_leastOf 2 200 [.ref 85, .int a] (G ++ (mdl (j_a0 D) t 0 0 ++ U), sl) (some (.double (dv 409595904))) (G ++ ((mdl (j_a0 D) t 0 0 ++ U) ++ lkT (84 + (7 + u))), sl + 6 + 2) := by
  refine cn_of (lv0 := [(0, .ref 85), (1, .int a)]) (by decide +kernel) rfl (fun _ => by simp [lg_sl, j_v, Value.category]) (fun _ => rfl) ?_
  refine rn_dcon (n := 0) (m := 409595904) dX11_leastOf_0 wd_622 (by decide +kernel) ?_
  refine rn_dstore_n dX11_leastOf_3 (by decide) rfl ?_
  refine rn_iconst (v := 0) dX11_leastOf_4 rfl ?_
  refine rn_istore dX11_leastOf_5 (by decide) rfl ?_
  refine rn_iload dX11_leastOf_7 rfl ?_
  refine rn_aload_n dX11_leastOf_9 rfl ?_
  refine rnT_get (i := 0) hG dX11_leastOf_10 fo_X11_16 rfl rfl ?_
  refine rn_callV dX11_leastOf_13 cv_X11_37 (c_AL_size (i := 86) (gt_at (i := 2) hG rfl)) rfl (gt_at (i := 2) hG rfl) rfl rfl (by decide) (by decide) rfl (Nat.le_of_ble_eq_true rfl) ?_
  refine rn_icmp_ge (tgt := 80) dX11_leastOf_16 rfl (fun q => absurd q (by decide)) (fun _ => ?_)
  refine rnT_new (t := 7 + u) hG (by simp [mdl, hU]; try omega) dX11_leastOf_19 no_X11_149 ?_
  refine rn_h (h2 := ((G ++ (mdl (j_a0 D) t 0 0 ++ U)) ++ [.inr (10, [.int 0, .null, .null, .null, .null, .null])], sl + 6)) (by rw [← List.append_assoc G]; rfl) ?_
  refine rn_dup dX11_leastOf_22 rfl ?_
  refine rn_aload_n dX11_leastOf_23 rfl ?_
  refine rn_iload dX11_leastOf_24 rfl ?_
  have hGU : (G ++ (mdl (j_a0 D) t 0 0 ++ U)).length = 84 + (7 + u) := by simp [mdl, hG, hU]; try omega
  refine rn_callI dX11_leastOf_26 ci_X11_151 (c_X10_init (a := 84 + (7 + u)) hGU (gt_at (i := 0) hG rfl) rfl (gt_at (i := 3) hG rfl)) rfl (by decide) (by decide) rfl (Nat.le_of_ble_eq_true rfl) ?_
  refine rn_h (h2 := (G ++ ((mdl (j_a0 D) t 0 0 ++ U) ++ lkT (84 + (7 + u))), sl + 6 + 2)) (by rw [List.append_assoc G]) ?_
  refine rn_astore dX11_leastOf_29 (by decide) rfl ?_
  refine rn_iconst (v := 0) dX11_leastOf_31 rfl ?_
  refine rn_istore dX11_leastOf_32 (by decide) rfl ?_
  refine rn_iload dX11_leastOf_34 rfl ?_
  refine rn_aload_n dX11_leastOf_36 rfl ?_
  refine rnT_get (i := 0) hG dX11_leastOf_37 fo_X11_19 rfl rfl ?_
  refine rn_callV dX11_leastOf_40 cv_X11_37 (c_AL_size (i := 87) (gt_at (i := 3) hG rfl)) rfl (gt_at (i := 3) hG rfl) rfl rfl (by decide) (by decide) rfl (Nat.le_of_ble_eq_true rfl) ?_
  refine rn_icmp_ge (tgt := 74) dX11_leastOf_43 rfl (fun _ => ?_) (fun q => absurd (by decide) q)
  refine rn_iinc (v := 1) dX11_leastOf_74 rfl (by decide) (by decide) rfl ?_
  refine rn_goto (tgt := 7) dX11_leastOf_77 rfl ?_
  refine rn_iload dX11_leastOf_7 rfl ?_
  refine rn_aload_n dX11_leastOf_9 rfl ?_
  refine rnT_get (i := 0) hG dX11_leastOf_10 fo_X11_16 rfl rfl ?_
  refine rn_callV dX11_leastOf_13 cv_X11_37 (c_AL_size (i := 86) (gt_at (i := 2) hG rfl)) rfl (gt_at (i := 2) hG rfl) rfl rfl (by decide) (by decide) rfl (Nat.le_of_ble_eq_true rfl) ?_
  refine rn_icmp_ge (tgt := 80) dX11_leastOf_16 rfl (fun _ => ?_) (fun q => absurd (by decide) q)
  refine rn_dload_n dX11_leastOf_80 rfl ?_
  exact rn_ret dX11_leastOf_81 trivial rfl
set_option maxRecDepth 20000 in
theorem c_X11_bestOf {t : Int32} (hG : G.length = 84) (hU : U.length = u) : Cn l D ad tc L xs mX11_bestOf 3 300 [.ref 85] (G ++ (mdl (j_a0 D) t 0 0 ++ U), sl) (some (.int (-1))) (G ++ ((mdl (j_a0 D) t 0 0 ++ U) ++ lkT (84 + (7 + u))), sl + 6 + 2) := by
  refine cn_of (lv0 := [(0, .ref 85)]) (by decide +kernel) ⟨_, rfl, rfl⟩ (fun _ => by simp [lg_sl, j_v, Value.category]) (fun _ => rfl) ?_
  refine rn_iconst (v := (-1)) dX11_bestOf_0 rfl ?_
  refine rn_istore_n dX11_bestOf_1 (by decide) rfl ?_
  refine rn_aload_n dX11_bestOf_2 rfl ?_
  refine rn_iconst (v := 1) dX11_bestOf_3 rfl ?_
  refine rn_callV dX11_bestOf_4 cv_X11_227 (c_X11_leastOf hG hU) rfl (gt_at (i := 0) hG rfl) rfl rfl (by decide) (by decide) rfl (Nat.le_of_ble_eq_true rfl) ?_
  refine rn_dstore_n dX11_bestOf_7 (by decide) rfl ?_
  refine rn_iconst (v := 0) dX11_bestOf_8 rfl ?_
  refine rn_istore dX11_bestOf_9 (by decide) rfl ?_
  refine rn_iload dX11_bestOf_11 rfl ?_
  refine rn_aload_n dX11_bestOf_13 rfl ?_
  refine rnT_get (i := 0) hG dX11_bestOf_14 fo_X11_19 rfl rfl ?_
  refine rn_callV dX11_bestOf_17 cv_X11_37 (c_AL_size (i := 87) (gt_at (i := 3) hG rfl)) rfl (gt_at (i := 3) hG rfl) rfl rfl (by decide) (by decide) rfl (Nat.le_of_ble_eq_true rfl) ?_
  refine rn_icmp_ge (tgt := 77) dX11_bestOf_20 rfl (fun _ => ?_) (fun q => absurd (by decide) q)
  refine rn_iload_n dX11_bestOf_77 rfl ?_
  exact rn_ret dX11_bestOf_78 trivial rfl
set_option maxRecDepth 20000 in
theorem c_X11_least {a t : Int32} (hG : G.length = 84) (hU : U.length = u) : Cn l D ad tc L xs mX11_least 3 300 [.ref 85, .int a] (G ++ (mdl (j_a0 D) t 0 0 ++ U), sl) (some (.double (dv 409595904))) (G ++ ((mdl (j_a0 D) 0 0 0 ++ U) ++ lkT (84 + (7 + u))), sl + 6 + 2) := by
  refine cn_of (lv0 := [(0, .ref 85), (1, .int a)]) (by decide +kernel) rfl (fun _ => by simp [lg_sl, j_v, Value.category]) (fun _ => rfl) ?_
  refine rn_aload_n dX11_least_0 rfl ?_
  refine rn_iconst (v := 0) dX11_least_1 rfl ?_
  refine rnT_put (i := 0) hG dX11_least_2 fp_X11_29 rfl (by simp) (fun _ => ⟨rfl, rfl⟩) (Or.inr ⟨_, _, _, rfl, rfl⟩) ?_
  refine rn_h (h2 := (G ++ (mdl (j_a0 D) 0 0 0 ++ U), sl)) rfl ?_
  refine rn_aload_n dX11_least_5 rfl ?_
  refine rn_iload_n dX11_least_6 rfl ?_
  refine rn_callV dX11_least_7 cv_X11_227 (c_X11_leastOf hG hU) rfl (gt_at (i := 0) hG rfl) rfl rfl (by decide) (by decide) rfl (Nat.le_of_ble_eq_true rfl) ?_
  exact rn_ret dX11_least_10 trivial rfl
set_option maxRecDepth 20000 in
theorem c_X11_best {t : Int32} (hG : G.length = 84) (hU : U.length = u) : Cn l D ad tc L xs mX11_best 4 400 [.ref 85] (G ++ (mdl (j_a0 D) t 0 0 ++ U), sl) (some (.int (-1))) (G ++ ((mdl (j_a0 D) 0 0 0 ++ U) ++ lkT (84 + (7 + u))), sl + 6 + 2) := by
  refine cn_of (lv0 := [(0, .ref 85)]) (by decide +kernel) ⟨_, rfl, rfl⟩ (fun _ => by simp [lg_sl, j_v, Value.category]) (fun _ => rfl) ?_
  refine rn_aload_n dX11_best_0 rfl ?_
  refine rn_iconst (v := 0) dX11_best_1 rfl ?_
  refine rnT_put (i := 0) hG dX11_best_2 fp_X11_29 rfl (by simp) (fun _ => ⟨rfl, rfl⟩) (Or.inr ⟨_, _, _, rfl, rfl⟩) ?_
  refine rn_h (h2 := (G ++ (mdl (j_a0 D) 0 0 0 ++ U), sl)) rfl ?_
  refine rn_aload_n dX11_best_5 rfl ?_
  refine rn_callV dX11_best_6 cv_X11_234 (c_X11_bestOf hG hU) rfl (gt_at (i := 0) hG rfl) rfl rfl (by decide) (by decide) rfl (Nat.le_of_ble_eq_true rfl) ?_
  exact rn_ret dX11_best_9 trivial rfl
def itr0 : j_C := .inr (13, [.int 0, .int (-1), .int 0, .ref (85 + 1)])
set_option maxRecDepth 20000 in
theorem c_X11_digest {t : Int32} (hG : G.length = 84) (hU : U.length = u) : Cn l D ad tc L xs mX11_digest 6 500 [.ref 85] (G ++ (mdl (j_a0 D) t 0 0 ++ U), sl) (some (.long (1549124912602722884))) (G ++ (mdl (j_a0 D) 0 0 0 ++ (U ++ [itr0]) ++ lkT (84 + (7 + (u + 1)))), sl + 4 + 6 + 2) := by
  refine cn_of (lv0 := [(0, .ref 85)]) (by decide +kernel) rfl (fun _ => by simp [lg_sl, j_v, Value.category]) (fun _ => rfl) ?_
  refine rn_aload_n dX11_digest_0 rfl ?_
  refine rn_iconst (v := 0) dX11_digest_1 rfl ?_
  refine rnT_put (i := 0) hG dX11_digest_2 fp_X11_29 rfl (by simp) (fun _ => ⟨rfl, rfl⟩) (Or.inr ⟨_, _, _, rfl, rfl⟩) ?_
  refine rn_h (h2 := (G ++ (mdl (j_a0 D) 0 0 0 ++ U), sl)) rfl ?_
  refine rn_ldc2 dX11_digest_5 wd_628 ?_
  refine rn_lstore_n dX11_digest_8 (by decide) rfl ?_
  refine rn_iconst (v := 0) dX11_digest_9 rfl ?_
  refine rn_istore_n dX11_digest_10 (by decide) rfl ?_
  refine rn_iload_n dX11_digest_11 rfl ?_
  refine rn_bipush (v := 11) dX11_digest_12 rfl ?_
  refine rn_icmp_ge (tgt := 34) dX11_digest_14 rfl (fun q => absurd q (by decide)) (fun _ => ?_)
  refine rn_lload_n dX11_digest_17 rfl ?_
  refine rn_aload_n dX11_digest_18 rfl ?_
  refine rn_iload_n dX11_digest_19 rfl ?_
  refine rn_callV dX11_digest_20 cv_X11_224 (c_X11_told_0 hG) rfl (gt_at (i := 0) hG rfl) rfl rfl (by decide) (by decide) rfl (Nat.le_of_ble_eq_true rfl) ?_
  refine rn_i2l dX11_digest_23 rfl ?_
  refine rn_callS dX11_digest_24 cs_X11_244 c_X11_add rfl (by decide) (by decide) rfl (Nat.le_of_ble_eq_true rfl) ?_
  refine rn_topl (y := 297724) (by decide +kernel) ?_
  refine rn_lstore_n dX11_digest_27 (by decide) rfl ?_
  refine rn_iinc (v := 1) dX11_digest_28 rfl (by decide) (by decide) rfl ?_
  refine rn_goto (tgt := 11) dX11_digest_31 rfl ?_
  refine rn_iload_n dX11_digest_11 rfl ?_
  refine rn_bipush (v := 11) dX11_digest_12 rfl ?_
  refine rn_icmp_ge (tgt := 34) dX11_digest_14 rfl (fun q => absurd q (by decide)) (fun _ => ?_)
  refine rn_lload_n dX11_digest_17 rfl ?_
  refine rn_aload_n dX11_digest_18 rfl ?_
  refine rn_iload_n dX11_digest_19 rfl ?_
  refine rn_callV dX11_digest_20 cv_X11_224 (c_X11_told_1 hG) rfl (gt_at (i := 0) hG rfl) rfl rfl (by decide) (by decide) rfl (Nat.le_of_ble_eq_true rfl) ?_
  refine rn_i2l dX11_digest_23 rfl ?_
  refine rn_callS dX11_digest_24 cs_X11_244 c_X11_add rfl (by decide) (by decide) rfl (Nat.le_of_ble_eq_true rfl) ?_
  refine rn_topl (y := 9229445) (by decide +kernel) ?_
  refine rn_lstore_n dX11_digest_27 (by decide) rfl ?_
  refine rn_iinc (v := 2) dX11_digest_28 rfl (by decide) (by decide) rfl ?_
  refine rn_goto (tgt := 11) dX11_digest_31 rfl ?_
  refine rn_iload_n dX11_digest_11 rfl ?_
  refine rn_bipush (v := 11) dX11_digest_12 rfl ?_
  refine rn_icmp_ge (tgt := 34) dX11_digest_14 rfl (fun q => absurd q (by decide)) (fun _ => ?_)
  refine rn_lload_n dX11_digest_17 rfl ?_
  refine rn_aload_n dX11_digest_18 rfl ?_
  refine rn_iload_n dX11_digest_19 rfl ?_
  refine rn_callV dX11_digest_20 cv_X11_224 (c_X11_told_2 hG) rfl (gt_at (i := 0) hG rfl) rfl rfl (by decide) (by decide) rfl (Nat.le_of_ble_eq_true rfl) ?_
  refine rn_i2l dX11_digest_23 rfl ?_
  refine rn_callS dX11_digest_24 cs_X11_244 c_X11_add rfl (by decide) (by decide) rfl (Nat.le_of_ble_eq_true rfl) ?_
  refine rn_topl (y := 286112795) (by decide +kernel) ?_
  refine rn_lstore_n dX11_digest_27 (by decide) rfl ?_
  refine rn_iinc (v := 3) dX11_digest_28 rfl (by decide) (by decide) rfl ?_
  refine rn_goto (tgt := 11) dX11_digest_31 rfl ?_
  refine rn_iload_n dX11_digest_11 rfl ?_
  refine rn_bipush (v := 11) dX11_digest_12 rfl ?_
  refine rn_icmp_ge (tgt := 34) dX11_digest_14 rfl (fun q => absurd q (by decide)) (fun _ => ?_)
  refine rn_lload_n dX11_digest_17 rfl ?_
  refine rn_aload_n dX11_digest_18 rfl ?_
  refine rn_iload_n dX11_digest_19 rfl ?_
  refine rn_callV dX11_digest_20 cv_X11_224 (c_X11_told_3 hG) rfl (gt_at (i := 0) hG rfl) rfl rfl (by decide) (by decide) rfl (Nat.le_of_ble_eq_true rfl) ?_
  refine rn_i2l dX11_digest_23 rfl ?_
  refine rn_callS dX11_digest_24 cs_X11_244 c_X11_add rfl (by decide) (by decide) rfl (Nat.le_of_ble_eq_true rfl) ?_
  refine rn_topl (y := 8869496645) (by decide +kernel) ?_
  refine rn_lstore_n dX11_digest_27 (by decide) rfl ?_
  refine rn_iinc (v := 4) dX11_digest_28 rfl (by decide) (by decide) rfl ?_
  refine rn_goto (tgt := 11) dX11_digest_31 rfl ?_
  refine rn_iload_n dX11_digest_11 rfl ?_
  refine rn_bipush (v := 11) dX11_digest_12 rfl ?_
  refine rn_icmp_ge (tgt := 34) dX11_digest_14 rfl (fun q => absurd q (by decide)) (fun _ => ?_)
  refine rn_lload_n dX11_digest_17 rfl ?_
  refine rn_aload_n dX11_digest_18 rfl ?_
  refine rn_iload_n dX11_digest_19 rfl ?_
  refine rn_callV dX11_digest_20 cv_X11_224 (c_X11_told_4 hG) rfl (gt_at (i := 0) hG rfl) rfl rfl (by decide) (by decide) rfl (Nat.le_of_ble_eq_true rfl) ?_
  refine rn_i2l dX11_digest_23 rfl ?_
  refine rn_callS dX11_digest_24 cs_X11_244 c_X11_add rfl (by decide) (by decide) rfl (Nat.le_of_ble_eq_true rfl) ?_
  refine rn_topl (y := 274954395995) (by decide +kernel) ?_
  refine rn_lstore_n dX11_digest_27 (by decide) rfl ?_
  refine rn_iinc (v := 5) dX11_digest_28 rfl (by decide) (by decide) rfl ?_
  refine rn_goto (tgt := 11) dX11_digest_31 rfl ?_
  refine rn_iload_n dX11_digest_11 rfl ?_
  refine rn_bipush (v := 11) dX11_digest_12 rfl ?_
  refine rn_icmp_ge (tgt := 34) dX11_digest_14 rfl (fun q => absurd q (by decide)) (fun _ => ?_)
  refine rn_lload_n dX11_digest_17 rfl ?_
  refine rn_aload_n dX11_digest_18 rfl ?_
  refine rn_iload_n dX11_digest_19 rfl ?_
  refine rn_callV dX11_digest_20 cv_X11_224 (c_X11_told_5 hG) rfl (gt_at (i := 0) hG rfl) rfl rfl (by decide) (by decide) rfl (Nat.le_of_ble_eq_true rfl) ?_
  refine rn_i2l dX11_digest_23 rfl ?_
  refine rn_callS dX11_digest_24 cs_X11_244 c_X11_add rfl (by decide) (by decide) rfl (Nat.le_of_ble_eq_true rfl) ?_
  refine rn_topl (y := 8523586275845) (by decide +kernel) ?_
  refine rn_lstore_n dX11_digest_27 (by decide) rfl ?_
  refine rn_iinc (v := 6) dX11_digest_28 rfl (by decide) (by decide) rfl ?_
  refine rn_goto (tgt := 11) dX11_digest_31 rfl ?_
  refine rn_iload_n dX11_digest_11 rfl ?_
  refine rn_bipush (v := 11) dX11_digest_12 rfl ?_
  refine rn_icmp_ge (tgt := 34) dX11_digest_14 rfl (fun q => absurd q (by decide)) (fun _ => ?_)
  refine rn_lload_n dX11_digest_17 rfl ?_
  refine rn_aload_n dX11_digest_18 rfl ?_
  refine rn_iload_n dX11_digest_19 rfl ?_
  refine rn_callV dX11_digest_20 cv_X11_224 (c_X11_told_6 hG) rfl (gt_at (i := 0) hG rfl) rfl rfl (by decide) (by decide) rfl (Nat.le_of_ble_eq_true rfl) ?_
  refine rn_i2l dX11_digest_23 rfl ?_
  refine rn_callS dX11_digest_24 cs_X11_244 c_X11_add rfl (by decide) (by decide) rfl (Nat.le_of_ble_eq_true rfl) ?_
  refine rn_topl (y := 264231174551195) (by decide +kernel) ?_
  refine rn_lstore_n dX11_digest_27 (by decide) rfl ?_
  refine rn_iinc (v := 7) dX11_digest_28 rfl (by decide) (by decide) rfl ?_
  refine rn_goto (tgt := 11) dX11_digest_31 rfl ?_
  refine rn_iload_n dX11_digest_11 rfl ?_
  refine rn_bipush (v := 11) dX11_digest_12 rfl ?_
  refine rn_icmp_ge (tgt := 34) dX11_digest_14 rfl (fun q => absurd q (by decide)) (fun _ => ?_)
  refine rn_lload_n dX11_digest_17 rfl ?_
  refine rn_aload_n dX11_digest_18 rfl ?_
  refine rn_iload_n dX11_digest_19 rfl ?_
  refine rn_callV dX11_digest_20 cv_X11_224 (c_X11_told_7 hG) rfl (gt_at (i := 0) hG rfl) rfl rfl (by decide) (by decide) rfl (Nat.le_of_ble_eq_true rfl) ?_
  refine rn_i2l dX11_digest_23 rfl ?_
  refine rn_callS dX11_digest_24 cs_X11_244 c_X11_add rfl (by decide) (by decide) rfl (Nat.le_of_ble_eq_true rfl) ?_
  refine rn_topl (y := 8191166411087045) (by decide +kernel) ?_
  refine rn_lstore_n dX11_digest_27 (by decide) rfl ?_
  refine rn_iinc (v := 8) dX11_digest_28 rfl (by decide) (by decide) rfl ?_
  refine rn_goto (tgt := 11) dX11_digest_31 rfl ?_
  refine rn_iload_n dX11_digest_11 rfl ?_
  refine rn_bipush (v := 11) dX11_digest_12 rfl ?_
  refine rn_icmp_ge (tgt := 34) dX11_digest_14 rfl (fun q => absurd q (by decide)) (fun _ => ?_)
  refine rn_lload_n dX11_digest_17 rfl ?_
  refine rn_aload_n dX11_digest_18 rfl ?_
  refine rn_iload_n dX11_digest_19 rfl ?_
  refine rn_callV dX11_digest_20 cv_X11_224 (c_X11_told_8 hG) rfl (gt_at (i := 0) hG rfl) rfl rfl (by decide) (by decide) rfl (Nat.le_of_ble_eq_true rfl) ?_
  refine rn_i2l dX11_digest_23 rfl ?_
  refine rn_callS dX11_digest_24 cs_X11_244 c_X11_add rfl (by decide) (by decide) rfl (Nat.le_of_ble_eq_true rfl) ?_
  refine rn_topl (y := 253926158743698395) (by decide +kernel) ?_
  refine rn_lstore_n dX11_digest_27 (by decide) rfl ?_
  refine rn_iinc (v := 9) dX11_digest_28 rfl (by decide) (by decide) rfl ?_
  refine rn_goto (tgt := 11) dX11_digest_31 rfl ?_
  refine rn_iload_n dX11_digest_11 rfl ?_
  refine rn_bipush (v := 11) dX11_digest_12 rfl ?_
  refine rn_icmp_ge (tgt := 34) dX11_digest_14 rfl (fun q => absurd q (by decide)) (fun _ => ?_)
  refine rn_lload_n dX11_digest_17 rfl ?_
  refine rn_aload_n dX11_digest_18 rfl ?_
  refine rn_iload_n dX11_digest_19 rfl ?_
  refine rn_callV dX11_digest_20 cv_X11_224 (c_X11_told_9 hG) rfl (gt_at (i := 0) hG rfl) rfl rfl (by decide) (by decide) rfl (Nat.le_of_ble_eq_true rfl) ?_
  refine rn_i2l dX11_digest_23 rfl ?_
  refine rn_callS dX11_digest_24 cs_X11_244 c_X11_add rfl (by decide) (by decide) rfl (Nat.le_of_ble_eq_true rfl) ?_
  refine rn_topl (y := 7871710921054650245) (by decide +kernel) ?_
  refine rn_lstore_n dX11_digest_27 (by decide) rfl ?_
  refine rn_iinc (v := 10) dX11_digest_28 rfl (by decide) (by decide) rfl ?_
  refine rn_goto (tgt := 11) dX11_digest_31 rfl ?_
  refine rn_iload_n dX11_digest_11 rfl ?_
  refine rn_bipush (v := 11) dX11_digest_12 rfl ?_
  refine rn_icmp_ge (tgt := 34) dX11_digest_14 rfl (fun q => absurd q (by decide)) (fun _ => ?_)
  refine rn_lload_n dX11_digest_17 rfl ?_
  refine rn_aload_n dX11_digest_18 rfl ?_
  refine rn_iload_n dX11_digest_19 rfl ?_
  refine rn_callV dX11_digest_20 cv_X11_224 (c_X11_told_10 hG) rfl (gt_at (i := 0) hG rfl) rfl rfl (by decide) (by decide) rfl (Nat.le_of_ble_eq_true rfl) ?_
  refine rn_i2l dX11_digest_23 rfl ?_
  refine rn_callS dX11_digest_24 cs_X11_244 c_X11_add rfl (by decide) (by decide) rfl (Nat.le_of_ble_eq_true rfl) ?_
  refine rn_topl (y := 4215365594469986587) (by decide +kernel) ?_
  refine rn_lstore_n dX11_digest_27 (by decide) rfl ?_
  refine rn_iinc (v := 11) dX11_digest_28 rfl (by decide) (by decide) rfl ?_
  refine rn_goto (tgt := 11) dX11_digest_31 rfl ?_
  refine rn_iload_n dX11_digest_11 rfl ?_
  refine rn_bipush (v := 11) dX11_digest_12 rfl ?_
  refine rn_icmp_ge (tgt := 34) dX11_digest_14 rfl (fun _ => ?_) (fun q => absurd (by decide) q)
  refine rn_aload_n dX11_digest_34 rfl ?_
  refine rnT_get (i := 0) hG dX11_digest_35 fo_X11_10 rfl rfl ?_
  have hGU : (G ++ (mdl (j_a0 D) 0 0 0 ++ U)).length = 84 + (7 + u) := by simp [mdl, hG, hU]; try omega
  refine rn_callV dX11_digest_38 cv_X11_86 (c_AL_iterator (i := 85) (a := 84 + (7 + u)) hGU (gt_at (i := 1) hG rfl)) rfl (gt_at (i := 1) hG rfl) rfl rfl (by decide) (by decide) rfl (Nat.le_of_ble_eq_true rfl) ?_
  refine rn_astore_n dX11_digest_41 (by decide) rfl ?_
  refine rn_aload_n dX11_digest_42 rfl ?_
  refine rn_callF rfl dX11_digest_43 (c_hasNext0 (x := 84 + (7 + u) + 0) (i := 85) (gt_at (i := 0) hGU rfl) (gl_at (gt_at (i := 1) hG rfl))) (gt_at (i := 0) hGU rfl) (by decide) (by decide) rfl (Nat.le_of_ble_eq_true rfl) ?_
  refine rn_if_eq (tgt := 91) dX11_digest_48 rfl (fun _ => ?_) (fun q => absurd rfl q)
  refine rn_h (h2 := (G ++ ((mdl (j_a0 D) 0 0 0 ++ U) ++ [itr0]), sl + 4)) (by rw [List.append_assoc G]; rfl) ?_
  refine rn_iconst (v := 0) dX11_digest_91 rfl ?_
  refine rn_istore_n dX11_digest_92 (by decide) rfl ?_
  refine rn_iload_n dX11_digest_93 rfl ?_
  refine rn_aload_n dX11_digest_94 rfl ?_
  refine rnT_get (i := 0) hG dX11_digest_95 fo_X11_19 rfl rfl ?_
  refine rn_callV dX11_digest_98 cv_X11_37 (c_AL_size (i := 87) (gt_at (i := 3) hG rfl)) rfl (gt_at (i := 3) hG rfl) rfl rfl (by decide) (by decide) rfl (Nat.le_of_ble_eq_true rfl) ?_
  refine rn_icmp_ge (tgt := 208) dX11_digest_101 rfl (fun _ => ?_) (fun q => absurd (by decide) q)
  refine rn_lload_n dX11_digest_208 rfl ?_
  refine rn_aload_n dX11_digest_209 rfl ?_
  refine rn_h (h2 := (G ++ (mdl (j_a0 D) 0 0 0 ++ (U ++ [itr0])), sl + 4)) (by rw [List.append_assoc (mdl (j_a0 D) 0 0 0)]) ?_
  refine rn_callV dX11_digest_210 cv_X11_234 (c_X11_bestOf (u := u + 1) hG (by rw [List.length_append, hU]; rfl)) rfl (gt_at (i := 0) hG rfl) rfl rfl (by decide) (by decide) rfl (Nat.le_of_ble_eq_true rfl) ?_
  refine rn_i2l dX11_digest_213 rfl ?_
  refine rn_callS dX11_digest_214 cs_X11_244 c_X11_add rfl (by decide) (by decide) rfl (Nat.le_of_ble_eq_true rfl) ?_
  refine rn_topl (y := 1549124912602722884) (by decide +kernel) ?_
  exact rn_ret dX11_digest_217 trivial rfl
end R4
