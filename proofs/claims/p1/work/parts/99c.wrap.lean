/-! the law's own methods with handlers -/
def gW (S : jS) : List j_C := (List.range 84).map (cc S)
theorem gW_len {S : jS} : (gW S).length = 84 := by simp [gW]
def ol (v : Int64) : j_C := .inl (8, 1, .inr (.inl (vp_updL (fun _ => 0) 0 v)))
def od (v : UInt64) : j_C := .inl (1, 1, .inr (.inr (.inr (.inl (vf_upd (fun _ => 0) 0 v)))))
theorem ol_up {w v : Int64} : vp_updL (vp_updL (fun _ => 0) 0 w) (0 : Int32).toNatClampNeg v = vp_updL (fun _ => 0) 0 v := by
  funext j
  show (if j = 0 then v else (if j = 0 then w else 0)) = if j = 0 then v else 0
  by_cases h : j = 0
  · rw [if_pos h, if_pos h]
  · rw [if_neg h, if_neg h, if_neg h]
theorem od_up {w v : UInt64} : vf_upd (vf_upd (fun _ => 0) 0 w) (0 : Int32).toNatClampNeg v = vf_upd (fun _ => 0) 0 v := by
  funext j
  show (if j = 0 then v else (if j = 0 then w else 0)) = if j = 0 then v else 0
  by_cases h : j = 0
  · rw [if_pos h, if_pos h]
  · rw [if_neg h, if_neg h, if_neg h]
section W1
variable {l : Launch} {D : va_G} {ad : Nat → Nat} {tc : Nat → ClassId} {L : Nat} {xs : Nat → Int32} {M : j_M} {d lo pc : Nat} {lv : j_L} {st : List Value} {h h' : j_H} {r : Option Value} {S S' : jS} {E : List j_C} {sl sl' d' lo' : Nat}
theorem wd_E {S : jS} {E : List j_C} {i : Nat} {c : j_C} (h : E[i]? = some c) : (wd S E)[84 + i]? = some c := gt_at gW_len h
theorem rnE_ol {w v : Int64} (hE : E[7]? = some (ol w)) (hd : decode M.2.1 pc = .ok (.lastore, 1)) (kk : Rn l D ad tc L xs M d lo (pc + 1) lv st (wd S (E.set 7 (ol v)), sl) r h') : Rn l D ad tc L xs M d lo pc lv (.long v :: .int 0 :: .ref 92 :: st) (wd S E, sl) r h' := by
  refine rn_lastore hd (wd_E hE) rfl (by unfold vp_in; decide) ?_
  show Rn l D ad tc L xs M d lo (pc + 1) lv st ((gW S ++ E).set (84 + 7) _, sl) r h'
  rw [gt_set gW_len, ol_up]
  exact kk
theorem rnE_od {w v : UInt64} (hE : E[8]? = some (od w)) (hd : decode M.2.1 pc = .ok (.dastore, 1)) (kk : Rn l D ad tc L xs M d lo (pc + 1) lv st (wd S (E.set 8 (od v)), sl) r h') : Rn l D ad tc L xs M d lo pc lv (.double v :: .int 0 :: .ref 93 :: st) (wd S E, sl) r h' := by
  refine rn_dastore hd (wd_E hE) rfl (by unfold vp_in; decide) ?_
  show Rn l D ad tc L xs M d lo (pc + 1) lv st ((gW S ++ E).set (84 + 8) _, sl) r h'
  rw [gt_set gW_len, od_up]
  exact kk
theorem tb_arrival : j_tab mL_arrival.1 = [(0, 15, 18, 21), (0, 15, 22, 15)] := by decide +kernel
set_option maxRecDepth 20000 in
theorem w_arrival_ok {a b c d e : Int32} {v w : UInt64} (hE : E[8]? = some (od w)) (hc : Cn l D ad tc L xs mX9_arrival d' lo' [.ref 1, .int a, .int b, .int c, .int d, .int e] (wd S E, sl) (some (.double v)) (wd S' E, sl')) (h1 : d' + 1 ≤ 60) (h2 : 8 + (6 + 11) + lo' ≤ 3000) : Ch l D ad tc L xs mL_arrival [(0, 15, 18, 21), (0, 15, 22, 15)] 60 3000 [.ref 1, .int a, .int b, .int c, .int d, .int e, .ref 93] (wd S E, sl) 0 (wd S' (E.set 8 (od v)), sl') := by
  refine ch_of (lv0 := [(0, .ref 1), (1, .int a), (2, .int b), (3, .int c), (4, .int d), (5, .int e), (6, .ref 93)]) (by decide +kernel) tb_arrival rfl (fun _ => by simp [lg_sl, j_v, Value.category]) (fun _ => rfl) ?_
  refine rn_aload dL_arrival_0 rfl ?_
  refine rn_iconst (v := 0) dL_arrival_2 rfl ?_
  refine rn_aload_n dL_arrival_3 rfl ?_
  refine rn_iload_n dL_arrival_4 rfl ?_
  refine rn_iload_n dL_arrival_5 rfl ?_
  refine rn_iload_n dL_arrival_6 rfl ?_
  refine rn_iload dL_arrival_7 rfl ?_
  refine rn_iload dL_arrival_9 rfl ?_
  refine rn_callV dL_arrival_11 cv_L_59 hc rfl h_SH rfl rfl h1 h2 rfl (Nat.le_of_ble_eq_true rfl) ?_
  refine rnE_od hE dL_arrival_14 ?_
  refine rn_goto (tgt := 26) dL_arrival_15 rfl ?_
  refine rn_iconst (v := 0) dL_arrival_26 rfl ?_
  exact rn_ret dL_arrival_27 trivial rfl
set_option maxRecDepth 20000 in
theorem w_arrival_x1 {a b c d e : Int32} (hc : Cx l D ad tc L xs mX9_arrival d' lo' [.ref 1, .int a, .int b, .int c, .int d, .int e] (wd S E, sl) 1) (h1 : d' + 1 ≤ 60) (h2 : 8 + (6 + 11) + lo' ≤ 3000) : Ch l D ad tc L xs mL_arrival [(0, 15, 18, 21), (0, 15, 22, 15)] 60 3000 [.ref 1, .int a, .int b, .int c, .int d, .int e, .ref 93] (wd S E, sl) 1 (wd S (E ++ [j_x 1]), sl + 6) := by
  refine ch_of (lv0 := [(0, .ref 1), (1, .int a), (2, .int b), (3, .int c), (4, .int d), (5, .int e), (6, .ref 93)]) (by decide +kernel) tb_arrival rfl (fun _ => by simp [lg_sl, j_v, Value.category]) (fun _ => rfl) ?_
  refine rn_aload dL_arrival_0 rfl ?_
  refine rn_iconst (v := 0) dL_arrival_2 rfl ?_
  refine rn_aload_n dL_arrival_3 rfl ?_
  refine rn_iload_n dL_arrival_4 rfl ?_
  refine rn_iload_n dL_arrival_5 rfl ?_
  refine rn_iload_n dL_arrival_6 rfl ?_
  refine rn_iload dL_arrival_7 rfl ?_
  refine rn_iload dL_arrival_9 rfl ?_
  refine rn_catchV (pre := []) (x := ⟨0, 15, 18, 21⟩) (suf := [⟨0, 15, 22, 15⟩]) (i := 7) (w := 2) dL_arrival_11 cv_L_59 hc rfl h_SH rfl rfl h1 h2 rfl (Nat.le_of_ble_eq_true rfl) (by decide) (by rw [tb_arrival]; rfl) (fun z hz => absurd hz List.not_mem_nil) (by decide) (by decide) wc_L_21 (Or.inl ⟨dL_arrival_18, rfl⟩) (by decide) rfl ?_
  refine rn_h (h2 := (wd S (E ++ [j_x 1]), sl + 6)) (by unfold exh wd; rw [List.append_assoc]) ?_
  refine rn_iconst (v := 1) dL_arrival_20 rfl ?_
  exact rn_ret dL_arrival_21 trivial rfl
set_option maxRecDepth 20000 in
theorem w_arrival_x2 {a b c d e : Int32} (hc : Cx l D ad tc L xs mX9_arrival d' lo' [.ref 1, .int a, .int b, .int c, .int d, .int e] (wd S E, sl) 2) (h1 : d' + 1 ≤ 60) (h2 : 8 + (6 + 11) + lo' ≤ 3000) : Ch l D ad tc L xs mL_arrival [(0, 15, 18, 21), (0, 15, 22, 15)] 60 3000 [.ref 1, .int a, .int b, .int c, .int d, .int e, .ref 93] (wd S E, sl) 2 (wd S (E ++ [j_x 2]), sl + 6) := by
  refine ch_of (lv0 := [(0, .ref 1), (1, .int a), (2, .int b), (3, .int c), (4, .int d), (5, .int e), (6, .ref 93)]) (by decide +kernel) tb_arrival rfl (fun _ => by simp [lg_sl, j_v, Value.category]) (fun _ => rfl) ?_
  refine rn_aload dL_arrival_0 rfl ?_
  refine rn_iconst (v := 0) dL_arrival_2 rfl ?_
  refine rn_aload_n dL_arrival_3 rfl ?_
  refine rn_iload_n dL_arrival_4 rfl ?_
  refine rn_iload_n dL_arrival_5 rfl ?_
  refine rn_iload_n dL_arrival_6 rfl ?_
  refine rn_iload dL_arrival_7 rfl ?_
  refine rn_iload dL_arrival_9 rfl ?_
  refine rn_catchV (pre := [⟨0, 15, 18, 21⟩]) (x := ⟨0, 15, 22, 15⟩) (suf := []) (i := 7) (w := 2) dL_arrival_11 cv_L_59 hc rfl h_SH rfl rfl h1 h2 rfl (Nat.le_of_ble_eq_true rfl) (by decide) (by rw [tb_arrival]; rfl) (fun z hz => by
      rw [List.mem_singleton] at hz
      subst hz
      exact ⟨by decide, 1, by decide, by decide, wc_L_21⟩) (by decide) (by decide) wc_L_15 (Or.inl ⟨dL_arrival_22, rfl⟩) (by decide) rfl ?_
  refine rn_h (h2 := (wd S (E ++ [j_x 2]), sl + 6)) (by unfold exh wd; rw [List.append_assoc]) ?_
  refine rn_iconst (v := 2) dL_arrival_24 rfl ?_
  exact rn_ret dL_arrival_25 trivial rfl
theorem tb_borrow : j_tab mL_borrow.1 = [(0, 9, 12, 21), (0, 9, 16, 15)] := by decide +kernel
set_option maxRecDepth 20000 in
theorem w_borrow_ok {a b : Int32} {v w : UInt64} (hE : E[8]? = some (od w)) (hc : Cn l D ad tc L xs mX9_borrow d' lo' [.ref 1, .int a, .int b] (wd S E, sl) (some (.double v)) (wd S' E, sl')) (h1 : d' + 1 ≤ 60) (h2 : 8 + (3 + 11) + lo' ≤ 3000) : Ch l D ad tc L xs mL_borrow [(0, 9, 12, 21), (0, 9, 16, 15)] 60 3000 [.ref 1, .int a, .int b, .ref 93] (wd S E, sl) 0 (wd S' (E.set 8 (od v)), sl') := by
  refine ch_of (lv0 := [(0, .ref 1), (1, .int a), (2, .int b), (3, .ref 93)]) (by decide +kernel) tb_borrow rfl (fun _ => by simp [lg_sl, j_v, Value.category]) (fun _ => rfl) ?_
  refine rn_aload_n dL_borrow_0 rfl ?_
  refine rn_iconst (v := 0) dL_borrow_1 rfl ?_
  refine rn_aload_n dL_borrow_2 rfl ?_
  refine rn_iload_n dL_borrow_3 rfl ?_
  refine rn_iload_n dL_borrow_4 rfl ?_
  refine rn_callV dL_borrow_5 cv_L_74 hc rfl h_SH rfl rfl h1 h2 rfl (Nat.le_of_ble_eq_true rfl) ?_
  refine rnE_od hE dL_borrow_8 ?_
  refine rn_goto (tgt := 20) dL_borrow_9 rfl ?_
  refine rn_iconst (v := 0) dL_borrow_20 rfl ?_
  exact rn_ret dL_borrow_21 trivial rfl
set_option maxRecDepth 20000 in
theorem w_borrow_x1 {a b : Int32} (hc : Cx l D ad tc L xs mX9_borrow d' lo' [.ref 1, .int a, .int b] (wd S E, sl) 1) (h1 : d' + 1 ≤ 60) (h2 : 8 + (3 + 11) + lo' ≤ 3000) : Ch l D ad tc L xs mL_borrow [(0, 9, 12, 21), (0, 9, 16, 15)] 60 3000 [.ref 1, .int a, .int b, .ref 93] (wd S E, sl) 1 (wd S (E ++ [j_x 1]), sl + 6) := by
  refine ch_of (lv0 := [(0, .ref 1), (1, .int a), (2, .int b), (3, .ref 93)]) (by decide +kernel) tb_borrow rfl (fun _ => by simp [lg_sl, j_v, Value.category]) (fun _ => rfl) ?_
  refine rn_aload_n dL_borrow_0 rfl ?_
  refine rn_iconst (v := 0) dL_borrow_1 rfl ?_
  refine rn_aload_n dL_borrow_2 rfl ?_
  refine rn_iload_n dL_borrow_3 rfl ?_
  refine rn_iload_n dL_borrow_4 rfl ?_
  refine rn_catchV (pre := []) (x := ⟨0, 9, 12, 21⟩) (suf := [⟨0, 9, 16, 15⟩]) (i := 4) (w := 2) dL_borrow_5 cv_L_74 hc rfl h_SH rfl rfl h1 h2 rfl (Nat.le_of_ble_eq_true rfl) (by decide) (by rw [tb_borrow]; rfl) (fun z hz => absurd hz List.not_mem_nil) (by decide) (by decide) wc_L_21 (Or.inl ⟨dL_borrow_12, rfl⟩) (by decide) rfl ?_
  refine rn_h (h2 := (wd S (E ++ [j_x 1]), sl + 6)) (by unfold exh wd; rw [List.append_assoc]) ?_
  refine rn_iconst (v := 1) dL_borrow_14 rfl ?_
  exact rn_ret dL_borrow_15 trivial rfl
set_option maxRecDepth 20000 in
theorem w_borrow_x2 {a b : Int32} (hc : Cx l D ad tc L xs mX9_borrow d' lo' [.ref 1, .int a, .int b] (wd S E, sl) 2) (h1 : d' + 1 ≤ 60) (h2 : 8 + (3 + 11) + lo' ≤ 3000) : Ch l D ad tc L xs mL_borrow [(0, 9, 12, 21), (0, 9, 16, 15)] 60 3000 [.ref 1, .int a, .int b, .ref 93] (wd S E, sl) 2 (wd S (E ++ [j_x 2]), sl + 6) := by
  refine ch_of (lv0 := [(0, .ref 1), (1, .int a), (2, .int b), (3, .ref 93)]) (by decide +kernel) tb_borrow rfl (fun _ => by simp [lg_sl, j_v, Value.category]) (fun _ => rfl) ?_
  refine rn_aload_n dL_borrow_0 rfl ?_
  refine rn_iconst (v := 0) dL_borrow_1 rfl ?_
  refine rn_aload_n dL_borrow_2 rfl ?_
  refine rn_iload_n dL_borrow_3 rfl ?_
  refine rn_iload_n dL_borrow_4 rfl ?_
  refine rn_catchV (pre := [⟨0, 9, 12, 21⟩]) (x := ⟨0, 9, 16, 15⟩) (suf := []) (i := 4) (w := 2) dL_borrow_5 cv_L_74 hc rfl h_SH rfl rfl h1 h2 rfl (Nat.le_of_ble_eq_true rfl) (by decide) (by rw [tb_borrow]; rfl) (fun z hz => by
      rw [List.mem_singleton] at hz
      subst hz
      exact ⟨by decide, 1, by decide, by decide, wc_L_21⟩) (by decide) (by decide) wc_L_15 (Or.inl ⟨dL_borrow_16, rfl⟩) (by decide) rfl ?_
  refine rn_h (h2 := (wd S (E ++ [j_x 2]), sl + 6)) (by unfold exh wd; rw [List.append_assoc]) ?_
  refine rn_iconst (v := 2) dL_borrow_18 rfl ?_
  exact rn_ret dL_borrow_19 trivial rfl
theorem tb_clock : j_tab mL_clock.1 = [(0, 14, 17, 13), (0, 14, 21, 15)] := by decide +kernel
set_option maxRecDepth 20000 in
theorem w_clock_ok {a b c d : Int32} {v : Int32} {w : Int64} (hE : E[7]? = some (ol w)) (hc : Cn l D ad tc L xs mX9_clock d' lo' [.ref 1, .int a, .int b, .int c, .int d] (wd S E, sl) (some (.int v)) (wd S' E, sl')) (h1 : d' + 1 ≤ 60) (h2 : 8 + (5 + 11) + lo' ≤ 3000) : Ch l D ad tc L xs mL_clock [(0, 14, 17, 13), (0, 14, 21, 15)] 60 3000 [.ref 1, .int a, .int b, .int c, .int d, .ref 92] (wd S E, sl) 0 (wd S' (E.set 7 (ol v.toInt64)), sl') := by
  refine ch_of (lv0 := [(0, .ref 1), (1, .int a), (2, .int b), (3, .int c), (4, .int d), (5, .ref 92)]) (by decide +kernel) tb_clock rfl (fun _ => by simp [lg_sl, j_v, Value.category]) (fun _ => rfl) ?_
  refine rn_aload dL_clock_0 rfl ?_
  refine rn_iconst (v := 0) dL_clock_2 rfl ?_
  refine rn_aload_n dL_clock_3 rfl ?_
  refine rn_iload_n dL_clock_4 rfl ?_
  refine rn_iload_n dL_clock_5 rfl ?_
  refine rn_iload_n dL_clock_6 rfl ?_
  refine rn_iload dL_clock_7 rfl ?_
  refine rn_callV dL_clock_9 cv_L_7 hc rfl h_SH rfl rfl h1 h2 rfl (Nat.le_of_ble_eq_true rfl) ?_
  refine rn_i2l dL_clock_12 rfl ?_
  refine rnE_ol hE dL_clock_13 ?_
  refine rn_goto (tgt := 25) dL_clock_14 rfl ?_
  refine rn_iconst (v := 0) dL_clock_25 rfl ?_
  exact rn_ret dL_clock_26 trivial rfl
set_option maxRecDepth 20000 in
theorem w_clock_x2 {a b c d : Int32} (hc : Cx l D ad tc L xs mX9_clock d' lo' [.ref 1, .int a, .int b, .int c, .int d] (wd S E, sl) 2) (h1 : d' + 1 ≤ 60) (h2 : 8 + (5 + 11) + lo' ≤ 3000) : Ch l D ad tc L xs mL_clock [(0, 14, 17, 13), (0, 14, 21, 15)] 60 3000 [.ref 1, .int a, .int b, .int c, .int d, .ref 92] (wd S E, sl) 2 (wd S (E ++ [j_x 2]), sl + 6) := by
  refine ch_of (lv0 := [(0, .ref 1), (1, .int a), (2, .int b), (3, .int c), (4, .int d), (5, .ref 92)]) (by decide +kernel) tb_clock rfl (fun _ => by simp [lg_sl, j_v, Value.category]) (fun _ => rfl) ?_
  refine rn_aload dL_clock_0 rfl ?_
  refine rn_iconst (v := 0) dL_clock_2 rfl ?_
  refine rn_aload_n dL_clock_3 rfl ?_
  refine rn_iload_n dL_clock_4 rfl ?_
  refine rn_iload_n dL_clock_5 rfl ?_
  refine rn_iload_n dL_clock_6 rfl ?_
  refine rn_iload dL_clock_7 rfl ?_
  refine rn_catchV (pre := [⟨0, 14, 17, 13⟩]) (x := ⟨0, 14, 21, 15⟩) (suf := []) (i := 6) (w := 2) dL_clock_9 cv_L_7 hc rfl h_SH rfl rfl h1 h2 rfl (Nat.le_of_ble_eq_true rfl) (by decide) (by rw [tb_clock]; rfl) (fun z hz => by
      rw [List.mem_singleton] at hz
      subst hz
      exact ⟨by decide, 0, by decide, by decide, wc_L_13⟩) (by decide) (by decide) wc_L_15 (Or.inl ⟨dL_clock_21, rfl⟩) (by decide) rfl ?_
  refine rn_h (h2 := (wd S (E ++ [j_x 2]), sl + 6)) (by unfold exh wd; rw [List.append_assoc]) ?_
  refine rn_iconst (v := 2) dL_clock_23 rfl ?_
  exact rn_ret dL_clock_24 trivial rfl
theorem tb_corner : j_tab mL_corner.1 = [(0, 10, 13, 13), (0, 10, 17, 15)] := by decide +kernel
set_option maxRecDepth 20000 in
theorem w_corner_ok {a b : Int32} {v : Int32} {w : Int64} (hE : E[7]? = some (ol w)) (hc : Cn l D ad tc L xs mX9_corner d' lo' [.ref 1, .int a, .int b] (wd S E, sl) (some (.int v)) (wd S' E, sl')) (h1 : d' + 1 ≤ 60) (h2 : 8 + (3 + 11) + lo' ≤ 3000) : Ch l D ad tc L xs mL_corner [(0, 10, 13, 13), (0, 10, 17, 15)] 60 3000 [.ref 1, .int a, .int b, .ref 92] (wd S E, sl) 0 (wd S' (E.set 7 (ol v.toInt64)), sl') := by
  refine ch_of (lv0 := [(0, .ref 1), (1, .int a), (2, .int b), (3, .ref 92)]) (by decide +kernel) tb_corner rfl (fun _ => by simp [lg_sl, j_v, Value.category]) (fun _ => rfl) ?_
  refine rn_aload_n dL_corner_0 rfl ?_
  refine rn_iconst (v := 0) dL_corner_1 rfl ?_
  refine rn_aload_n dL_corner_2 rfl ?_
  refine rn_iload_n dL_corner_3 rfl ?_
  refine rn_iload_n dL_corner_4 rfl ?_
  refine rn_callV dL_corner_5 cv_L_23 hc rfl h_SH rfl rfl h1 h2 rfl (Nat.le_of_ble_eq_true rfl) ?_
  refine rn_i2l dL_corner_8 rfl ?_
  refine rnE_ol hE dL_corner_9 ?_
  refine rn_goto (tgt := 21) dL_corner_10 rfl ?_
  refine rn_iconst (v := 0) dL_corner_21 rfl ?_
  exact rn_ret dL_corner_22 trivial rfl
set_option maxRecDepth 20000 in
theorem w_corner_x2 {a b : Int32} (hc : Cx l D ad tc L xs mX9_corner d' lo' [.ref 1, .int a, .int b] (wd S E, sl) 2) (h1 : d' + 1 ≤ 60) (h2 : 8 + (3 + 11) + lo' ≤ 3000) : Ch l D ad tc L xs mL_corner [(0, 10, 13, 13), (0, 10, 17, 15)] 60 3000 [.ref 1, .int a, .int b, .ref 92] (wd S E, sl) 2 (wd S (E ++ [j_x 2]), sl + 6) := by
  refine ch_of (lv0 := [(0, .ref 1), (1, .int a), (2, .int b), (3, .ref 92)]) (by decide +kernel) tb_corner rfl (fun _ => by simp [lg_sl, j_v, Value.category]) (fun _ => rfl) ?_
  refine rn_aload_n dL_corner_0 rfl ?_
  refine rn_iconst (v := 0) dL_corner_1 rfl ?_
  refine rn_aload_n dL_corner_2 rfl ?_
  refine rn_iload_n dL_corner_3 rfl ?_
  refine rn_iload_n dL_corner_4 rfl ?_
  refine rn_catchV (pre := [⟨0, 10, 13, 13⟩]) (x := ⟨0, 10, 17, 15⟩) (suf := []) (i := 4) (w := 2) dL_corner_5 cv_L_23 hc rfl h_SH rfl rfl h1 h2 rfl (Nat.le_of_ble_eq_true rfl) (by decide) (by rw [tb_corner]; rfl) (fun z hz => by
      rw [List.mem_singleton] at hz
      subst hz
      exact ⟨by decide, 0, by decide, by decide, wc_L_13⟩) (by decide) (by decide) wc_L_15 (Or.inl ⟨dL_corner_17, rfl⟩) (by decide) rfl ?_
  refine rn_h (h2 := (wd S (E ++ [j_x 2]), sl + 6)) (by unfold exh wd; rw [List.append_assoc]) ?_
  refine rn_iconst (v := 2) dL_corner_19 rfl ?_
  exact rn_ret dL_corner_20 trivial rfl
theorem tb_divide : j_tab mL_divide.1 = [(0, 12, 15, 13), (0, 12, 19, 21), (0, 12, 23, 15)] := by decide +kernel
set_option maxRecDepth 20000 in
theorem w_divide_ok {a b c : Int32} {v : Int32} {w : Int64} (hE : E[7]? = some (ol w)) (hc : Cn l D ad tc L xs mX9_divide d' lo' [.ref 1, .int a, .int b, .int c] (wd S E, sl) (some (.int v)) (wd S' E, sl')) (h1 : d' + 1 ≤ 60) (h2 : 8 + (5 + 11) + lo' ≤ 3000) : Ch l D ad tc L xs mL_divide [(0, 12, 15, 13), (0, 12, 19, 21), (0, 12, 23, 15)] 60 3000 [.ref 1, .int a, .int b, .int c, .ref 92] (wd S E, sl) 0 (wd S' (E.set 7 (ol v.toInt64)), sl') := by
  refine ch_of (lv0 := [(0, .ref 1), (1, .int a), (2, .int b), (3, .int c), (4, .ref 92)]) (by decide +kernel) tb_divide rfl (fun _ => by simp [lg_sl, j_v, Value.category]) (fun _ => rfl) ?_
  refine rn_aload dL_divide_0 rfl ?_
  refine rn_iconst (v := 0) dL_divide_2 rfl ?_
  refine rn_aload_n dL_divide_3 rfl ?_
  refine rn_iload_n dL_divide_4 rfl ?_
  refine rn_iload_n dL_divide_5 rfl ?_
  refine rn_iload_n dL_divide_6 rfl ?_
  refine rn_callV dL_divide_7 cv_L_17 hc rfl h_SH rfl rfl h1 h2 rfl (Nat.le_of_ble_eq_true rfl) ?_
  refine rn_i2l dL_divide_10 rfl ?_
  refine rnE_ol hE dL_divide_11 ?_
  refine rn_goto (tgt := 27) dL_divide_12 rfl ?_
  refine rn_iconst (v := 0) dL_divide_27 rfl ?_
  exact rn_ret dL_divide_28 trivial rfl
set_option maxRecDepth 20000 in
theorem w_divide_x1 {a b c : Int32} (hc : Cx l D ad tc L xs mX9_divide d' lo' [.ref 1, .int a, .int b, .int c] (wd S E, sl) 1) (h1 : d' + 1 ≤ 60) (h2 : 8 + (5 + 11) + lo' ≤ 3000) : Ch l D ad tc L xs mL_divide [(0, 12, 15, 13), (0, 12, 19, 21), (0, 12, 23, 15)] 60 3000 [.ref 1, .int a, .int b, .int c, .ref 92] (wd S E, sl) 2 (wd S (E ++ [j_x 1]), sl + 6) := by
  refine ch_of (lv0 := [(0, .ref 1), (1, .int a), (2, .int b), (3, .int c), (4, .ref 92)]) (by decide +kernel) tb_divide rfl (fun _ => by simp [lg_sl, j_v, Value.category]) (fun _ => rfl) ?_
  refine rn_aload dL_divide_0 rfl ?_
  refine rn_iconst (v := 0) dL_divide_2 rfl ?_
  refine rn_aload_n dL_divide_3 rfl ?_
  refine rn_iload_n dL_divide_4 rfl ?_
  refine rn_iload_n dL_divide_5 rfl ?_
  refine rn_iload_n dL_divide_6 rfl ?_
  refine rn_catchV (pre := [⟨0, 12, 15, 13⟩]) (x := ⟨0, 12, 19, 21⟩) (suf := [⟨0, 12, 23, 15⟩]) (i := 5) (w := 2) dL_divide_7 cv_L_17 hc rfl h_SH rfl rfl h1 h2 rfl (Nat.le_of_ble_eq_true rfl) (by decide) (by rw [tb_divide]; rfl) (fun z hz => by
      rw [List.mem_singleton] at hz
      subst hz
      exact ⟨by decide, 0, by decide, by decide, wc_L_13⟩) (by decide) (by decide) wc_L_21 (Or.inl ⟨dL_divide_19, rfl⟩) (by decide) rfl ?_
  refine rn_h (h2 := (wd S (E ++ [j_x 1]), sl + 6)) (by unfold exh wd; rw [List.append_assoc]) ?_
  refine rn_iconst (v := 2) dL_divide_21 rfl ?_
  exact rn_ret dL_divide_22 trivial rfl
set_option maxRecDepth 20000 in
theorem w_divide_x2 {a b c : Int32} (hc : Cx l D ad tc L xs mX9_divide d' lo' [.ref 1, .int a, .int b, .int c] (wd S E, sl) 2) (h1 : d' + 1 ≤ 60) (h2 : 8 + (5 + 11) + lo' ≤ 3000) : Ch l D ad tc L xs mL_divide [(0, 12, 15, 13), (0, 12, 19, 21), (0, 12, 23, 15)] 60 3000 [.ref 1, .int a, .int b, .int c, .ref 92] (wd S E, sl) 3 (wd S (E ++ [j_x 2]), sl + 6) := by
  refine ch_of (lv0 := [(0, .ref 1), (1, .int a), (2, .int b), (3, .int c), (4, .ref 92)]) (by decide +kernel) tb_divide rfl (fun _ => by simp [lg_sl, j_v, Value.category]) (fun _ => rfl) ?_
  refine rn_aload dL_divide_0 rfl ?_
  refine rn_iconst (v := 0) dL_divide_2 rfl ?_
  refine rn_aload_n dL_divide_3 rfl ?_
  refine rn_iload_n dL_divide_4 rfl ?_
  refine rn_iload_n dL_divide_5 rfl ?_
  refine rn_iload_n dL_divide_6 rfl ?_
  refine rn_catchV (pre := [⟨0, 12, 15, 13⟩, ⟨0, 12, 19, 21⟩]) (x := ⟨0, 12, 23, 15⟩) (suf := []) (i := 5) (w := 2) dL_divide_7 cv_L_17 hc rfl h_SH rfl rfl h1 h2 rfl (Nat.le_of_ble_eq_true rfl) (by decide) (by rw [tb_divide]; rfl) (fun z hz => by
      simp only [List.mem_cons, List.not_mem_nil, or_false] at hz
      rcases hz with rfl | rfl
      · exact ⟨by decide, 0, by decide, by decide, wc_L_13⟩
      · exact ⟨by decide, 1, by decide, by decide, wc_L_21⟩) (by decide) (by decide) wc_L_15 (Or.inl ⟨dL_divide_23, rfl⟩) (by decide) rfl ?_
  refine rn_h (h2 := (wd S (E ++ [j_x 2]), sl + 6)) (by unfold exh wd; rw [List.append_assoc]) ?_
  refine rn_iconst (v := 3) dL_divide_25 rfl ?_
  exact rn_ret dL_divide_26 trivial rfl
theorem tb_exception : j_tab mL_exception.1 = [(0, 12, 15, 13), (0, 12, 19, 21), (0, 12, 23, 15)] := by decide +kernel
set_option maxRecDepth 20000 in
theorem w_exception_ok {a b c : Int32} {v : Int32} {w : Int64} (hE : E[7]? = some (ol w)) (hc : Cn l D ad tc L xs mX9_exception d' lo' [.ref 1, .int a, .int b, .int c] (wd S E, sl) (some (.int v)) (wd S' E, sl')) (h1 : d' + 1 ≤ 60) (h2 : 8 + (4 + 11) + lo' ≤ 3000) : Ch l D ad tc L xs mL_exception [(0, 12, 15, 13), (0, 12, 19, 21), (0, 12, 23, 15)] 60 3000 [.ref 1, .int a, .int b, .int c, .ref 92] (wd S E, sl) 0 (wd S' (E.set 7 (ol v.toInt64)), sl') := by
  refine ch_of (lv0 := [(0, .ref 1), (1, .int a), (2, .int b), (3, .int c), (4, .ref 92)]) (by decide +kernel) tb_exception rfl (fun _ => by simp [lg_sl, j_v, Value.category]) (fun _ => rfl) ?_
  refine rn_aload dL_exception_0 rfl ?_
  refine rn_iconst (v := 0) dL_exception_2 rfl ?_
  refine rn_aload_n dL_exception_3 rfl ?_
  refine rn_iload_n dL_exception_4 rfl ?_
  refine rn_iload_n dL_exception_5 rfl ?_
  refine rn_iload_n dL_exception_6 rfl ?_
  refine rn_callV dL_exception_7 cv_L_42 hc rfl h_SH rfl rfl h1 h2 rfl (Nat.le_of_ble_eq_true rfl) ?_
  refine rn_i2l dL_exception_10 rfl ?_
  refine rnE_ol hE dL_exception_11 ?_
  refine rn_goto (tgt := 27) dL_exception_12 rfl ?_
  refine rn_iconst (v := 0) dL_exception_27 rfl ?_
  exact rn_ret dL_exception_28 trivial rfl
set_option maxRecDepth 20000 in
theorem w_exception_x1 {a b c : Int32} (hc : Cx l D ad tc L xs mX9_exception d' lo' [.ref 1, .int a, .int b, .int c] (wd S E, sl) 1) (h1 : d' + 1 ≤ 60) (h2 : 8 + (4 + 11) + lo' ≤ 3000) : Ch l D ad tc L xs mL_exception [(0, 12, 15, 13), (0, 12, 19, 21), (0, 12, 23, 15)] 60 3000 [.ref 1, .int a, .int b, .int c, .ref 92] (wd S E, sl) 2 (wd S (E ++ [j_x 1]), sl + 6) := by
  refine ch_of (lv0 := [(0, .ref 1), (1, .int a), (2, .int b), (3, .int c), (4, .ref 92)]) (by decide +kernel) tb_exception rfl (fun _ => by simp [lg_sl, j_v, Value.category]) (fun _ => rfl) ?_
  refine rn_aload dL_exception_0 rfl ?_
  refine rn_iconst (v := 0) dL_exception_2 rfl ?_
  refine rn_aload_n dL_exception_3 rfl ?_
  refine rn_iload_n dL_exception_4 rfl ?_
  refine rn_iload_n dL_exception_5 rfl ?_
  refine rn_iload_n dL_exception_6 rfl ?_
  refine rn_catchV (pre := [⟨0, 12, 15, 13⟩]) (x := ⟨0, 12, 19, 21⟩) (suf := [⟨0, 12, 23, 15⟩]) (i := 5) (w := 2) dL_exception_7 cv_L_42 hc rfl h_SH rfl rfl h1 h2 rfl (Nat.le_of_ble_eq_true rfl) (by decide) (by rw [tb_exception]; rfl) (fun z hz => by
      rw [List.mem_singleton] at hz
      subst hz
      exact ⟨by decide, 0, by decide, by decide, wc_L_13⟩) (by decide) (by decide) wc_L_21 (Or.inl ⟨dL_exception_19, rfl⟩) (by decide) rfl ?_
  refine rn_h (h2 := (wd S (E ++ [j_x 1]), sl + 6)) (by unfold exh wd; rw [List.append_assoc]) ?_
  refine rn_iconst (v := 2) dL_exception_21 rfl ?_
  exact rn_ret dL_exception_22 trivial rfl
set_option maxRecDepth 20000 in
theorem w_exception_x2 {a b c : Int32} (hc : Cx l D ad tc L xs mX9_exception d' lo' [.ref 1, .int a, .int b, .int c] (wd S E, sl) 2) (h1 : d' + 1 ≤ 60) (h2 : 8 + (4 + 11) + lo' ≤ 3000) : Ch l D ad tc L xs mL_exception [(0, 12, 15, 13), (0, 12, 19, 21), (0, 12, 23, 15)] 60 3000 [.ref 1, .int a, .int b, .int c, .ref 92] (wd S E, sl) 3 (wd S (E ++ [j_x 2]), sl + 6) := by
  refine ch_of (lv0 := [(0, .ref 1), (1, .int a), (2, .int b), (3, .int c), (4, .ref 92)]) (by decide +kernel) tb_exception rfl (fun _ => by simp [lg_sl, j_v, Value.category]) (fun _ => rfl) ?_
  refine rn_aload dL_exception_0 rfl ?_
  refine rn_iconst (v := 0) dL_exception_2 rfl ?_
  refine rn_aload_n dL_exception_3 rfl ?_
  refine rn_iload_n dL_exception_4 rfl ?_
  refine rn_iload_n dL_exception_5 rfl ?_
  refine rn_iload_n dL_exception_6 rfl ?_
  refine rn_catchV (pre := [⟨0, 12, 15, 13⟩, ⟨0, 12, 19, 21⟩]) (x := ⟨0, 12, 23, 15⟩) (suf := []) (i := 5) (w := 2) dL_exception_7 cv_L_42 hc rfl h_SH rfl rfl h1 h2 rfl (Nat.le_of_ble_eq_true rfl) (by decide) (by rw [tb_exception]; rfl) (fun z hz => by
      simp only [List.mem_cons, List.not_mem_nil, or_false] at hz
      rcases hz with rfl | rfl
      · exact ⟨by decide, 0, by decide, by decide, wc_L_13⟩
      · exact ⟨by decide, 1, by decide, by decide, wc_L_21⟩) (by decide) (by decide) wc_L_15 (Or.inl ⟨dL_exception_23, rfl⟩) (by decide) rfl ?_
  refine rn_h (h2 := (wd S (E ++ [j_x 2]), sl + 6)) (by unfold exh wd; rw [List.append_assoc]) ?_
  refine rn_iconst (v := 3) dL_exception_25 rfl ?_
  exact rn_ret dL_exception_26 trivial rfl
theorem tb_feed : j_tab mL_feed.1 = [(0, 10, 13, 13), (0, 10, 17, 21), (0, 10, 21, 15)] := by decide +kernel
set_option maxRecDepth 20000 in
theorem w_feed_ok {a b : Int32} {v : Int32} {w : Int64} (hE : E[7]? = some (ol w)) (hc : Cn l D ad tc L xs mX9_feed d' lo' [.ref 1, .int a, .int b] (wd S E, sl) (some (.int v)) (wd S' E, sl')) (h1 : d' + 1 ≤ 60) (h2 : 8 + (4 + 11) + lo' ≤ 3000) : Ch l D ad tc L xs mL_feed [(0, 10, 13, 13), (0, 10, 17, 21), (0, 10, 21, 15)] 60 3000 [.ref 1, .int a, .int b, .ref 92] (wd S E, sl) 0 (wd S' (E.set 7 (ol v.toInt64)), sl') := by
  refine ch_of (lv0 := [(0, .ref 1), (1, .int a), (2, .int b), (3, .ref 92)]) (by decide +kernel) tb_feed rfl (fun _ => by simp [lg_sl, j_v, Value.category]) (fun _ => rfl) ?_
  refine rn_aload_n dL_feed_0 rfl ?_
  refine rn_iconst (v := 0) dL_feed_1 rfl ?_
  refine rn_aload_n dL_feed_2 rfl ?_
  refine rn_iload_n dL_feed_3 rfl ?_
  refine rn_iload_n dL_feed_4 rfl ?_
  refine rn_callV dL_feed_5 cv_L_30 hc rfl h_SH rfl rfl h1 h2 rfl (Nat.le_of_ble_eq_true rfl) ?_
  refine rn_i2l dL_feed_8 rfl ?_
  refine rnE_ol hE dL_feed_9 ?_
  refine rn_goto (tgt := 25) dL_feed_10 rfl ?_
  refine rn_iconst (v := 0) dL_feed_25 rfl ?_
  exact rn_ret dL_feed_26 trivial rfl
set_option maxRecDepth 20000 in
theorem w_feed_x1 {a b : Int32} (hc : Cx l D ad tc L xs mX9_feed d' lo' [.ref 1, .int a, .int b] (wd S E, sl) 1) (h1 : d' + 1 ≤ 60) (h2 : 8 + (4 + 11) + lo' ≤ 3000) : Ch l D ad tc L xs mL_feed [(0, 10, 13, 13), (0, 10, 17, 21), (0, 10, 21, 15)] 60 3000 [.ref 1, .int a, .int b, .ref 92] (wd S E, sl) 2 (wd S (E ++ [j_x 1]), sl + 6) := by
  refine ch_of (lv0 := [(0, .ref 1), (1, .int a), (2, .int b), (3, .ref 92)]) (by decide +kernel) tb_feed rfl (fun _ => by simp [lg_sl, j_v, Value.category]) (fun _ => rfl) ?_
  refine rn_aload_n dL_feed_0 rfl ?_
  refine rn_iconst (v := 0) dL_feed_1 rfl ?_
  refine rn_aload_n dL_feed_2 rfl ?_
  refine rn_iload_n dL_feed_3 rfl ?_
  refine rn_iload_n dL_feed_4 rfl ?_
  refine rn_catchV (pre := [⟨0, 10, 13, 13⟩]) (x := ⟨0, 10, 17, 21⟩) (suf := [⟨0, 10, 21, 15⟩]) (i := 4) (w := 2) dL_feed_5 cv_L_30 hc rfl h_SH rfl rfl h1 h2 rfl (Nat.le_of_ble_eq_true rfl) (by decide) (by rw [tb_feed]; rfl) (fun z hz => by
      rw [List.mem_singleton] at hz
      subst hz
      exact ⟨by decide, 0, by decide, by decide, wc_L_13⟩) (by decide) (by decide) wc_L_21 (Or.inl ⟨dL_feed_17, rfl⟩) (by decide) rfl ?_
  refine rn_h (h2 := (wd S (E ++ [j_x 1]), sl + 6)) (by unfold exh wd; rw [List.append_assoc]) ?_
  refine rn_iconst (v := 2) dL_feed_19 rfl ?_
  exact rn_ret dL_feed_20 trivial rfl
set_option maxRecDepth 20000 in
theorem w_feed_x2 {a b : Int32} (hc : Cx l D ad tc L xs mX9_feed d' lo' [.ref 1, .int a, .int b] (wd S E, sl) 2) (h1 : d' + 1 ≤ 60) (h2 : 8 + (4 + 11) + lo' ≤ 3000) : Ch l D ad tc L xs mL_feed [(0, 10, 13, 13), (0, 10, 17, 21), (0, 10, 21, 15)] 60 3000 [.ref 1, .int a, .int b, .ref 92] (wd S E, sl) 3 (wd S (E ++ [j_x 2]), sl + 6) := by
  refine ch_of (lv0 := [(0, .ref 1), (1, .int a), (2, .int b), (3, .ref 92)]) (by decide +kernel) tb_feed rfl (fun _ => by simp [lg_sl, j_v, Value.category]) (fun _ => rfl) ?_
  refine rn_aload_n dL_feed_0 rfl ?_
  refine rn_iconst (v := 0) dL_feed_1 rfl ?_
  refine rn_aload_n dL_feed_2 rfl ?_
  refine rn_iload_n dL_feed_3 rfl ?_
  refine rn_iload_n dL_feed_4 rfl ?_
  refine rn_catchV (pre := [⟨0, 10, 13, 13⟩, ⟨0, 10, 17, 21⟩]) (x := ⟨0, 10, 21, 15⟩) (suf := []) (i := 4) (w := 2) dL_feed_5 cv_L_30 hc rfl h_SH rfl rfl h1 h2 rfl (Nat.le_of_ble_eq_true rfl) (by decide) (by rw [tb_feed]; rfl) (fun z hz => by
      simp only [List.mem_cons, List.not_mem_nil, or_false] at hz
      rcases hz with rfl | rfl
      · exact ⟨by decide, 0, by decide, by decide, wc_L_13⟩
      · exact ⟨by decide, 1, by decide, by decide, wc_L_21⟩) (by decide) (by decide) wc_L_15 (Or.inl ⟨dL_feed_21, rfl⟩) (by decide) rfl ?_
  refine rn_h (h2 := (wd S (E ++ [j_x 2]), sl + 6)) (by unfold exh wd; rw [List.append_assoc]) ?_
  refine rn_iconst (v := 3) dL_feed_23 rfl ?_
  exact rn_ret dL_feed_24 trivial rfl
theorem tb_isIdle : j_tab mL_isIdle.1 = [(0, 16, 19, 21)] := by decide +kernel
set_option maxRecDepth 20000 in
theorem w_isIdle_ok {a : Int32} {w : Int64} (hE : E[7]? = some (ol w)) (hc : Cn l D ad tc L xs mX9_isIdle d' lo' [.ref 1, .int a] (wd S E, sl) (some (.int 0)) (wd S' E, sl')) (h1 : d' + 1 ≤ 60) (h2 : 8 + (3 + 11) + lo' ≤ 3000) : Ch l D ad tc L xs mL_isIdle [(0, 16, 19, 21)] 60 3000 [.ref 1, .int a, .ref 92] (wd S E, sl) 0 (wd S' (E.set 7 (ol (Int64.ofNat 0))), sl') := by
  refine ch_of (lv0 := [(0, .ref 1), (1, .int a), (2, .ref 92)]) (by decide +kernel) tb_isIdle rfl (fun _ => by simp [lg_sl, j_v, Value.category]) (fun _ => rfl) ?_
  refine rn_aload_n dL_isIdle_0 rfl ?_
  refine rn_iconst (v := 0) dL_isIdle_1 rfl ?_
  refine rn_aload_n dL_isIdle_2 rfl ?_
  refine rn_iload_n dL_isIdle_3 rfl ?_
  refine rn_callV dL_isIdle_4 cv_L_91 hc rfl h_SH rfl rfl h1 h2 rfl (Nat.le_of_ble_eq_true rfl) ?_
  refine rn_if_eq (tgt := 14) dL_isIdle_7 rfl (fun _ => ?_) (fun q => absurd rfl q)
  refine rn_lconst dL_isIdle_14 rfl ?_
  refine rnE_ol hE dL_isIdle_15 ?_
  refine rn_goto (tgt := 22) dL_isIdle_16 rfl ?_
  refine rn_iconst (v := 0) dL_isIdle_22 rfl ?_
  exact rn_ret dL_isIdle_23 trivial rfl
set_option maxRecDepth 20000 in
theorem w_isIdle_x1 {a : Int32} (hc : Cx l D ad tc L xs mX9_isIdle d' lo' [.ref 1, .int a] (wd S E, sl) 1) (h1 : d' + 1 ≤ 60) (h2 : 8 + (3 + 11) + lo' ≤ 3000) : Ch l D ad tc L xs mL_isIdle [(0, 16, 19, 21)] 60 3000 [.ref 1, .int a, .ref 92] (wd S E, sl) 1 (wd S (E ++ [j_x 1]), sl + 6) := by
  refine ch_of (lv0 := [(0, .ref 1), (1, .int a), (2, .ref 92)]) (by decide +kernel) tb_isIdle rfl (fun _ => by simp [lg_sl, j_v, Value.category]) (fun _ => rfl) ?_
  refine rn_aload_n dL_isIdle_0 rfl ?_
  refine rn_iconst (v := 0) dL_isIdle_1 rfl ?_
  refine rn_aload_n dL_isIdle_2 rfl ?_
  refine rn_iload_n dL_isIdle_3 rfl ?_
  refine rn_catchV (pre := []) (x := ⟨0, 16, 19, 21⟩) (suf := []) (i := 3) (w := 1) dL_isIdle_4 cv_L_91 hc rfl h_SH rfl rfl h1 h2 rfl (Nat.le_of_ble_eq_true rfl) (by decide) (by rw [tb_isIdle]; rfl) (fun z hz => absurd hz List.not_mem_nil) (by decide) (by decide) wc_L_21 (Or.inr ⟨3, dL_isIdle_19, rfl, rfl⟩) (by decide) rfl ?_
  refine rn_h (h2 := (wd S (E ++ [j_x 1]), sl + 6)) (by unfold exh wd; rw [List.append_assoc]) ?_
  refine rn_iconst (v := 1) dL_isIdle_20 rfl ?_
  exact rn_ret dL_isIdle_21 trivial rfl
theorem tb_left : j_tab mL_left.1 = [(0, 13, 16, 21), (0, 13, 20, 15)] := by decide +kernel
set_option maxRecDepth 20000 in
theorem w_left_ok {a b c d : Int32} {v w : UInt64} (hE : E[8]? = some (od w)) (hc : Cn l D ad tc L xs mX9_left d' lo' [.ref 1, .int a, .int b, .int c, .int d] (wd S E, sl) (some (.double v)) (wd S' E, sl')) (h1 : d' + 1 ≤ 60) (h2 : 8 + (5 + 11) + lo' ≤ 3000) : Ch l D ad tc L xs mL_left [(0, 13, 16, 21), (0, 13, 20, 15)] 60 3000 [.ref 1, .int a, .int b, .int c, .int d, .ref 93] (wd S E, sl) 0 (wd S' (E.set 8 (od v)), sl') := by
  refine ch_of (lv0 := [(0, .ref 1), (1, .int a), (2, .int b), (3, .int c), (4, .int d), (5, .ref 93)]) (by decide +kernel) tb_left rfl (fun _ => by simp [lg_sl, j_v, Value.category]) (fun _ => rfl) ?_
  refine rn_aload dL_left_0 rfl ?_
  refine rn_iconst (v := 0) dL_left_2 rfl ?_
  refine rn_aload_n dL_left_3 rfl ?_
  refine rn_iload_n dL_left_4 rfl ?_
  refine rn_iload_n dL_left_5 rfl ?_
  refine rn_iload_n dL_left_6 rfl ?_
  refine rn_iload dL_left_7 rfl ?_
  refine rn_callV dL_left_9 cv_L_66 hc rfl h_SH rfl rfl h1 h2 rfl (Nat.le_of_ble_eq_true rfl) ?_
  refine rnE_od hE dL_left_12 ?_
  refine rn_goto (tgt := 24) dL_left_13 rfl ?_
  refine rn_iconst (v := 0) dL_left_24 rfl ?_
  exact rn_ret dL_left_25 trivial rfl
set_option maxRecDepth 20000 in
theorem w_left_x1 {a b c d : Int32} (hc : Cx l D ad tc L xs mX9_left d' lo' [.ref 1, .int a, .int b, .int c, .int d] (wd S E, sl) 1) (h1 : d' + 1 ≤ 60) (h2 : 8 + (5 + 11) + lo' ≤ 3000) : Ch l D ad tc L xs mL_left [(0, 13, 16, 21), (0, 13, 20, 15)] 60 3000 [.ref 1, .int a, .int b, .int c, .int d, .ref 93] (wd S E, sl) 1 (wd S (E ++ [j_x 1]), sl + 6) := by
  refine ch_of (lv0 := [(0, .ref 1), (1, .int a), (2, .int b), (3, .int c), (4, .int d), (5, .ref 93)]) (by decide +kernel) tb_left rfl (fun _ => by simp [lg_sl, j_v, Value.category]) (fun _ => rfl) ?_
  refine rn_aload dL_left_0 rfl ?_
  refine rn_iconst (v := 0) dL_left_2 rfl ?_
  refine rn_aload_n dL_left_3 rfl ?_
  refine rn_iload_n dL_left_4 rfl ?_
  refine rn_iload_n dL_left_5 rfl ?_
  refine rn_iload_n dL_left_6 rfl ?_
  refine rn_iload dL_left_7 rfl ?_
  refine rn_catchV (pre := []) (x := ⟨0, 13, 16, 21⟩) (suf := [⟨0, 13, 20, 15⟩]) (i := 6) (w := 2) dL_left_9 cv_L_66 hc rfl h_SH rfl rfl h1 h2 rfl (Nat.le_of_ble_eq_true rfl) (by decide) (by rw [tb_left]; rfl) (fun z hz => absurd hz List.not_mem_nil) (by decide) (by decide) wc_L_21 (Or.inl ⟨dL_left_16, rfl⟩) (by decide) rfl ?_
  refine rn_h (h2 := (wd S (E ++ [j_x 1]), sl + 6)) (by unfold exh wd; rw [List.append_assoc]) ?_
  refine rn_iconst (v := 1) dL_left_18 rfl ?_
  exact rn_ret dL_left_19 trivial rfl
set_option maxRecDepth 20000 in
theorem w_left_x2 {a b c d : Int32} (hc : Cx l D ad tc L xs mX9_left d' lo' [.ref 1, .int a, .int b, .int c, .int d] (wd S E, sl) 2) (h1 : d' + 1 ≤ 60) (h2 : 8 + (5 + 11) + lo' ≤ 3000) : Ch l D ad tc L xs mL_left [(0, 13, 16, 21), (0, 13, 20, 15)] 60 3000 [.ref 1, .int a, .int b, .int c, .int d, .ref 93] (wd S E, sl) 2 (wd S (E ++ [j_x 2]), sl + 6) := by
  refine ch_of (lv0 := [(0, .ref 1), (1, .int a), (2, .int b), (3, .int c), (4, .int d), (5, .ref 93)]) (by decide +kernel) tb_left rfl (fun _ => by simp [lg_sl, j_v, Value.category]) (fun _ => rfl) ?_
  refine rn_aload dL_left_0 rfl ?_
  refine rn_iconst (v := 0) dL_left_2 rfl ?_
  refine rn_aload_n dL_left_3 rfl ?_
  refine rn_iload_n dL_left_4 rfl ?_
  refine rn_iload_n dL_left_5 rfl ?_
  refine rn_iload_n dL_left_6 rfl ?_
  refine rn_iload dL_left_7 rfl ?_
  refine rn_catchV (pre := [⟨0, 13, 16, 21⟩]) (x := ⟨0, 13, 20, 15⟩) (suf := []) (i := 6) (w := 2) dL_left_9 cv_L_66 hc rfl h_SH rfl rfl h1 h2 rfl (Nat.le_of_ble_eq_true rfl) (by decide) (by rw [tb_left]; rfl) (fun z hz => by
      rw [List.mem_singleton] at hz
      subst hz
      exact ⟨by decide, 1, by decide, by decide, wc_L_21⟩) (by decide) (by decide) wc_L_15 (Or.inl ⟨dL_left_20, rfl⟩) (by decide) rfl ?_
  refine rn_h (h2 := (wd S (E ++ [j_x 2]), sl + 6)) (by unfold exh wd; rw [List.append_assoc]) ?_
  refine rn_iconst (v := 2) dL_left_22 rfl ?_
  exact rn_ret dL_left_23 trivial rfl
theorem tb_leftAt : j_tab mL_leftAt.1 = [(0, 11, 14, 21), (0, 11, 18, 15)] := by decide +kernel
set_option maxRecDepth 20000 in
theorem w_leftAt_ok {a b c : Int32} {v w : UInt64} (hE : E[8]? = some (od w)) (hc : Cn l D ad tc L xs mX9_leftAt d' lo' [.ref 1, .int a, .int b, .int c] (wd S E, sl) (some (.double v)) (wd S' E, sl')) (h1 : d' + 1 ≤ 60) (h2 : 8 + (4 + 11) + lo' ≤ 3000) : Ch l D ad tc L xs mL_leftAt [(0, 11, 14, 21), (0, 11, 18, 15)] 60 3000 [.ref 1, .int a, .int b, .int c, .ref 93] (wd S E, sl) 0 (wd S' (E.set 8 (od v)), sl') := by
  refine ch_of (lv0 := [(0, .ref 1), (1, .int a), (2, .int b), (3, .int c), (4, .ref 93)]) (by decide +kernel) tb_leftAt rfl (fun _ => by simp [lg_sl, j_v, Value.category]) (fun _ => rfl) ?_
  refine rn_aload dL_leftAt_0 rfl ?_
  refine rn_iconst (v := 0) dL_leftAt_2 rfl ?_
  refine rn_aload_n dL_leftAt_3 rfl ?_
  refine rn_iload_n dL_leftAt_4 rfl ?_
  refine rn_iload_n dL_leftAt_5 rfl ?_
  refine rn_iload_n dL_leftAt_6 rfl ?_
  refine rn_callV dL_leftAt_7 cv_L_70 hc rfl h_SH rfl rfl h1 h2 rfl (Nat.le_of_ble_eq_true rfl) ?_
  refine rnE_od hE dL_leftAt_10 ?_
  refine rn_goto (tgt := 22) dL_leftAt_11 rfl ?_
  refine rn_iconst (v := 0) dL_leftAt_22 rfl ?_
  exact rn_ret dL_leftAt_23 trivial rfl
set_option maxRecDepth 20000 in
theorem w_leftAt_x1 {a b c : Int32} (hc : Cx l D ad tc L xs mX9_leftAt d' lo' [.ref 1, .int a, .int b, .int c] (wd S E, sl) 1) (h1 : d' + 1 ≤ 60) (h2 : 8 + (4 + 11) + lo' ≤ 3000) : Ch l D ad tc L xs mL_leftAt [(0, 11, 14, 21), (0, 11, 18, 15)] 60 3000 [.ref 1, .int a, .int b, .int c, .ref 93] (wd S E, sl) 1 (wd S (E ++ [j_x 1]), sl + 6) := by
  refine ch_of (lv0 := [(0, .ref 1), (1, .int a), (2, .int b), (3, .int c), (4, .ref 93)]) (by decide +kernel) tb_leftAt rfl (fun _ => by simp [lg_sl, j_v, Value.category]) (fun _ => rfl) ?_
  refine rn_aload dL_leftAt_0 rfl ?_
  refine rn_iconst (v := 0) dL_leftAt_2 rfl ?_
  refine rn_aload_n dL_leftAt_3 rfl ?_
  refine rn_iload_n dL_leftAt_4 rfl ?_
  refine rn_iload_n dL_leftAt_5 rfl ?_
  refine rn_iload_n dL_leftAt_6 rfl ?_
  refine rn_catchV (pre := []) (x := ⟨0, 11, 14, 21⟩) (suf := [⟨0, 11, 18, 15⟩]) (i := 5) (w := 2) dL_leftAt_7 cv_L_70 hc rfl h_SH rfl rfl h1 h2 rfl (Nat.le_of_ble_eq_true rfl) (by decide) (by rw [tb_leftAt]; rfl) (fun z hz => absurd hz List.not_mem_nil) (by decide) (by decide) wc_L_21 (Or.inl ⟨dL_leftAt_14, rfl⟩) (by decide) rfl ?_
  refine rn_h (h2 := (wd S (E ++ [j_x 1]), sl + 6)) (by unfold exh wd; rw [List.append_assoc]) ?_
  refine rn_iconst (v := 1) dL_leftAt_16 rfl ?_
  exact rn_ret dL_leftAt_17 trivial rfl
set_option maxRecDepth 20000 in
theorem w_leftAt_x2 {a b c : Int32} (hc : Cx l D ad tc L xs mX9_leftAt d' lo' [.ref 1, .int a, .int b, .int c] (wd S E, sl) 2) (h1 : d' + 1 ≤ 60) (h2 : 8 + (4 + 11) + lo' ≤ 3000) : Ch l D ad tc L xs mL_leftAt [(0, 11, 14, 21), (0, 11, 18, 15)] 60 3000 [.ref 1, .int a, .int b, .int c, .ref 93] (wd S E, sl) 2 (wd S (E ++ [j_x 2]), sl + 6) := by
  refine ch_of (lv0 := [(0, .ref 1), (1, .int a), (2, .int b), (3, .int c), (4, .ref 93)]) (by decide +kernel) tb_leftAt rfl (fun _ => by simp [lg_sl, j_v, Value.category]) (fun _ => rfl) ?_
  refine rn_aload dL_leftAt_0 rfl ?_
  refine rn_iconst (v := 0) dL_leftAt_2 rfl ?_
  refine rn_aload_n dL_leftAt_3 rfl ?_
  refine rn_iload_n dL_leftAt_4 rfl ?_
  refine rn_iload_n dL_leftAt_5 rfl ?_
  refine rn_iload_n dL_leftAt_6 rfl ?_
  refine rn_catchV (pre := [⟨0, 11, 14, 21⟩]) (x := ⟨0, 11, 18, 15⟩) (suf := []) (i := 5) (w := 2) dL_leftAt_7 cv_L_70 hc rfl h_SH rfl rfl h1 h2 rfl (Nat.le_of_ble_eq_true rfl) (by decide) (by rw [tb_leftAt]; rfl) (fun z hz => by
      rw [List.mem_singleton] at hz
      subst hz
      exact ⟨by decide, 1, by decide, by decide, wc_L_21⟩) (by decide) (by decide) wc_L_15 (Or.inl ⟨dL_leftAt_18, rfl⟩) (by decide) rfl ?_
  refine rn_h (h2 := (wd S (E ++ [j_x 2]), sl + 6)) (by unfold exh wd; rw [List.append_assoc]) ?_
  refine rn_iconst (v := 2) dL_leftAt_20 rfl ?_
  exact rn_ret dL_leftAt_21 trivial rfl
theorem tb_load : j_tab mL_load.1 = [(0, 8, 11, 21)] := by decide +kernel
set_option maxRecDepth 20000 in
theorem w_load_ok {a : Int32} {v w : UInt64} (hE : E[8]? = some (od w)) (hc : Cn l D ad tc L xs mX9_load d' lo' [.ref 1, .int a] (wd S E, sl) (some (.double v)) (wd S' E, sl')) (h1 : d' + 1 ≤ 60) (h2 : 8 + (2 + 11) + lo' ≤ 3000) : Ch l D ad tc L xs mL_load [(0, 8, 11, 21)] 60 3000 [.ref 1, .int a, .ref 93] (wd S E, sl) 0 (wd S' (E.set 8 (od v)), sl') := by
  refine ch_of (lv0 := [(0, .ref 1), (1, .int a), (2, .ref 93)]) (by decide +kernel) tb_load rfl (fun _ => by simp [lg_sl, j_v, Value.category]) (fun _ => rfl) ?_
  refine rn_aload_n dL_load_0 rfl ?_
  refine rn_iconst (v := 0) dL_load_1 rfl ?_
  refine rn_aload_n dL_load_2 rfl ?_
  refine rn_iload_n dL_load_3 rfl ?_
  refine rn_callV dL_load_4 cv_L_51 hc rfl h_SH rfl rfl h1 h2 rfl (Nat.le_of_ble_eq_true rfl) ?_
  refine rnE_od hE dL_load_7 ?_
  refine rn_goto (tgt := 14) dL_load_8 rfl ?_
  refine rn_iconst (v := 0) dL_load_14 rfl ?_
  exact rn_ret dL_load_15 trivial rfl
set_option maxRecDepth 20000 in
theorem w_load_x1 {a : Int32} (hc : Cx l D ad tc L xs mX9_load d' lo' [.ref 1, .int a] (wd S E, sl) 1) (h1 : d' + 1 ≤ 60) (h2 : 8 + (2 + 11) + lo' ≤ 3000) : Ch l D ad tc L xs mL_load [(0, 8, 11, 21)] 60 3000 [.ref 1, .int a, .ref 93] (wd S E, sl) 1 (wd S (E ++ [j_x 1]), sl + 6) := by
  refine ch_of (lv0 := [(0, .ref 1), (1, .int a), (2, .ref 93)]) (by decide +kernel) tb_load rfl (fun _ => by simp [lg_sl, j_v, Value.category]) (fun _ => rfl) ?_
  refine rn_aload_n dL_load_0 rfl ?_
  refine rn_iconst (v := 0) dL_load_1 rfl ?_
  refine rn_aload_n dL_load_2 rfl ?_
  refine rn_iload_n dL_load_3 rfl ?_
  refine rn_catchV (pre := []) (x := ⟨0, 8, 11, 21⟩) (suf := []) (i := 3) (w := 1) dL_load_4 cv_L_51 hc rfl h_SH rfl rfl h1 h2 rfl (Nat.le_of_ble_eq_true rfl) (by decide) (by rw [tb_load]; rfl) (fun z hz => absurd hz List.not_mem_nil) (by decide) (by decide) wc_L_21 (Or.inr ⟨3, dL_load_11, rfl, rfl⟩) (by decide) rfl ?_
  refine rn_h (h2 := (wd S (E ++ [j_x 1]), sl + 6)) (by unfold exh wd; rw [List.append_assoc]) ?_
  refine rn_iconst (v := 1) dL_load_12 rfl ?_
  exact rn_ret dL_load_13 trivial rfl
theorem tb_many : j_tab mL_many.1 = [(0, 9, 12, 15)] := by decide +kernel
set_option maxRecDepth 20000 in
theorem w_many_ok {a : Int32} {v : Int32} {w : Int64} (hE : E[7]? = some (ol w)) (hc : Cn l D ad tc L xs mX9_many d' lo' [.ref 1, .int a] (wd S E, sl) (some (.int v)) (wd S' E, sl')) (h1 : d' + 1 ≤ 60) (h2 : 8 + (2 + 11) + lo' ≤ 3000) : Ch l D ad tc L xs mL_many [(0, 9, 12, 15)] 60 3000 [.ref 1, .int a, .ref 92] (wd S E, sl) 0 (wd S' (E.set 7 (ol v.toInt64)), sl') := by
  refine ch_of (lv0 := [(0, .ref 1), (1, .int a), (2, .ref 92)]) (by decide +kernel) tb_many rfl (fun _ => by simp [lg_sl, j_v, Value.category]) (fun _ => rfl) ?_
  refine rn_aload_n dL_many_0 rfl ?_
  refine rn_iconst (v := 0) dL_many_1 rfl ?_
  refine rn_aload_n dL_many_2 rfl ?_
  refine rn_iload_n dL_many_3 rfl ?_
  refine rn_callV dL_many_4 cv_L_84 hc rfl h_SH rfl rfl h1 h2 rfl (Nat.le_of_ble_eq_true rfl) ?_
  refine rn_i2l dL_many_7 rfl ?_
  refine rnE_ol hE dL_many_8 ?_
  refine rn_goto (tgt := 15) dL_many_9 rfl ?_
  refine rn_iconst (v := 0) dL_many_15 rfl ?_
  exact rn_ret dL_many_16 trivial rfl
set_option maxRecDepth 20000 in
theorem w_many_x2 {a : Int32} (hc : Cx l D ad tc L xs mX9_many d' lo' [.ref 1, .int a] (wd S E, sl) 2) (h1 : d' + 1 ≤ 60) (h2 : 8 + (2 + 11) + lo' ≤ 3000) : Ch l D ad tc L xs mL_many [(0, 9, 12, 15)] 60 3000 [.ref 1, .int a, .ref 92] (wd S E, sl) 1 (wd S (E ++ [j_x 2]), sl + 6) := by
  refine ch_of (lv0 := [(0, .ref 1), (1, .int a), (2, .ref 92)]) (by decide +kernel) tb_many rfl (fun _ => by simp [lg_sl, j_v, Value.category]) (fun _ => rfl) ?_
  refine rn_aload_n dL_many_0 rfl ?_
  refine rn_iconst (v := 0) dL_many_1 rfl ?_
  refine rn_aload_n dL_many_2 rfl ?_
  refine rn_iload_n dL_many_3 rfl ?_
  refine rn_catchV (pre := []) (x := ⟨0, 9, 12, 15⟩) (suf := []) (i := 3) (w := 1) dL_many_4 cv_L_84 hc rfl h_SH rfl rfl h1 h2 rfl (Nat.le_of_ble_eq_true rfl) (by decide) (by rw [tb_many]; rfl) (fun z hz => absurd hz List.not_mem_nil) (by decide) (by decide) wc_L_15 (Or.inr ⟨3, dL_many_12, rfl, rfl⟩) (by decide) rfl ?_
  refine rn_h (h2 := (wd S (E ++ [j_x 2]), sl + 6)) (by unfold exh wd; rw [List.append_assoc]) ?_
  refine rn_iconst (v := 1) dL_many_13 rfl ?_
  exact rn_ret dL_many_14 trivial rfl
theorem tb_node : j_tab mL_node.1 = [(0, 14, 17, 13), (0, 14, 21, 21), (0, 14, 25, 15)] := by decide +kernel
set_option maxRecDepth 20000 in
theorem w_node_ok {a b c d : Int32} {v : Int32} {w : Int64} (hE : E[7]? = some (ol w)) (hc : Cn l D ad tc L xs mX9_node d' lo' [.ref 1, .int a, .int b, .int c, .int d] (wd S E, sl) (some (.int v)) (wd S' E, sl')) (h1 : d' + 1 ≤ 60) (h2 : 8 + (8 + 11) + lo' ≤ 3000) : Ch l D ad tc L xs mL_node [(0, 14, 17, 13), (0, 14, 21, 21), (0, 14, 25, 15)] 60 3000 [.ref 1, .int a, .int b, .int c, .int d, .ref 92] (wd S E, sl) 0 (wd S' (E.set 7 (ol v.toInt64)), sl') := by
  refine ch_of (lv0 := [(0, .ref 1), (1, .int a), (2, .int b), (3, .int c), (4, .int d), (5, .ref 92)]) (by decide +kernel) tb_node rfl (fun _ => by simp [lg_sl, j_v, Value.category]) (fun _ => rfl) ?_
  refine rn_aload dL_node_0 rfl ?_
  refine rn_iconst (v := 0) dL_node_2 rfl ?_
  refine rn_aload_n dL_node_3 rfl ?_
  refine rn_iload_n dL_node_4 rfl ?_
  refine rn_iload_n dL_node_5 rfl ?_
  refine rn_iload_n dL_node_6 rfl ?_
  refine rn_iload dL_node_7 rfl ?_
  refine rn_callV dL_node_9 cv_L_27 hc rfl h_SH rfl rfl h1 h2 rfl (Nat.le_of_ble_eq_true rfl) ?_
  refine rn_i2l dL_node_12 rfl ?_
  refine rnE_ol hE dL_node_13 ?_
  refine rn_goto (tgt := 29) dL_node_14 rfl ?_
  refine rn_iconst (v := 0) dL_node_29 rfl ?_
  exact rn_ret dL_node_30 trivial rfl
set_option maxRecDepth 20000 in
theorem w_node_x1 {a b c d : Int32} (hc : Cx l D ad tc L xs mX9_node d' lo' [.ref 1, .int a, .int b, .int c, .int d] (wd S E, sl) 1) (h1 : d' + 1 ≤ 60) (h2 : 8 + (8 + 11) + lo' ≤ 3000) : Ch l D ad tc L xs mL_node [(0, 14, 17, 13), (0, 14, 21, 21), (0, 14, 25, 15)] 60 3000 [.ref 1, .int a, .int b, .int c, .int d, .ref 92] (wd S E, sl) 2 (wd S (E ++ [j_x 1]), sl + 6) := by
  refine ch_of (lv0 := [(0, .ref 1), (1, .int a), (2, .int b), (3, .int c), (4, .int d), (5, .ref 92)]) (by decide +kernel) tb_node rfl (fun _ => by simp [lg_sl, j_v, Value.category]) (fun _ => rfl) ?_
  refine rn_aload dL_node_0 rfl ?_
  refine rn_iconst (v := 0) dL_node_2 rfl ?_
  refine rn_aload_n dL_node_3 rfl ?_
  refine rn_iload_n dL_node_4 rfl ?_
  refine rn_iload_n dL_node_5 rfl ?_
  refine rn_iload_n dL_node_6 rfl ?_
  refine rn_iload dL_node_7 rfl ?_
  refine rn_catchV (pre := [⟨0, 14, 17, 13⟩]) (x := ⟨0, 14, 21, 21⟩) (suf := [⟨0, 14, 25, 15⟩]) (i := 6) (w := 2) dL_node_9 cv_L_27 hc rfl h_SH rfl rfl h1 h2 rfl (Nat.le_of_ble_eq_true rfl) (by decide) (by rw [tb_node]; rfl) (fun z hz => by
      rw [List.mem_singleton] at hz
      subst hz
      exact ⟨by decide, 0, by decide, by decide, wc_L_13⟩) (by decide) (by decide) wc_L_21 (Or.inl ⟨dL_node_21, rfl⟩) (by decide) rfl ?_
  refine rn_h (h2 := (wd S (E ++ [j_x 1]), sl + 6)) (by unfold exh wd; rw [List.append_assoc]) ?_
  refine rn_iconst (v := 2) dL_node_23 rfl ?_
  exact rn_ret dL_node_24 trivial rfl
set_option maxRecDepth 20000 in
theorem w_node_x2 {a b c d : Int32} (hc : Cx l D ad tc L xs mX9_node d' lo' [.ref 1, .int a, .int b, .int c, .int d] (wd S E, sl) 2) (h1 : d' + 1 ≤ 60) (h2 : 8 + (8 + 11) + lo' ≤ 3000) : Ch l D ad tc L xs mL_node [(0, 14, 17, 13), (0, 14, 21, 21), (0, 14, 25, 15)] 60 3000 [.ref 1, .int a, .int b, .int c, .int d, .ref 92] (wd S E, sl) 3 (wd S (E ++ [j_x 2]), sl + 6) := by
  refine ch_of (lv0 := [(0, .ref 1), (1, .int a), (2, .int b), (3, .int c), (4, .int d), (5, .ref 92)]) (by decide +kernel) tb_node rfl (fun _ => by simp [lg_sl, j_v, Value.category]) (fun _ => rfl) ?_
  refine rn_aload dL_node_0 rfl ?_
  refine rn_iconst (v := 0) dL_node_2 rfl ?_
  refine rn_aload_n dL_node_3 rfl ?_
  refine rn_iload_n dL_node_4 rfl ?_
  refine rn_iload_n dL_node_5 rfl ?_
  refine rn_iload_n dL_node_6 rfl ?_
  refine rn_iload dL_node_7 rfl ?_
  refine rn_catchV (pre := [⟨0, 14, 17, 13⟩, ⟨0, 14, 21, 21⟩]) (x := ⟨0, 14, 25, 15⟩) (suf := []) (i := 6) (w := 2) dL_node_9 cv_L_27 hc rfl h_SH rfl rfl h1 h2 rfl (Nat.le_of_ble_eq_true rfl) (by decide) (by rw [tb_node]; rfl) (fun z hz => by
      simp only [List.mem_cons, List.not_mem_nil, or_false] at hz
      rcases hz with rfl | rfl
      · exact ⟨by decide, 0, by decide, by decide, wc_L_13⟩
      · exact ⟨by decide, 1, by decide, by decide, wc_L_21⟩) (by decide) (by decide) wc_L_15 (Or.inl ⟨dL_node_25, rfl⟩) (by decide) rfl ?_
  refine rn_h (h2 := (wd S (E ++ [j_x 2]), sl + 6)) (by unfold exh wd; rw [List.append_assoc]) ?_
  refine rn_iconst (v := 3) dL_node_27 rfl ?_
  exact rn_ret dL_node_28 trivial rfl
theorem tb_ofClock : j_tab mL_ofClock.1 = [(0, 10, 13, 21), (0, 10, 17, 15)] := by decide +kernel
set_option maxRecDepth 20000 in
theorem w_ofClock_ok {a b : Int32} {v : Int32} {w : Int64} (hE : E[7]? = some (ol w)) (hc : Cn l D ad tc L xs mX9_ofClock d' lo' [.ref 1, .int a, .int b] (wd S E, sl) (some (.int v)) (wd S' E, sl')) (h1 : d' + 1 ≤ 60) (h2 : 8 + (3 + 11) + lo' ≤ 3000) : Ch l D ad tc L xs mL_ofClock [(0, 10, 13, 21), (0, 10, 17, 15)] 60 3000 [.ref 1, .int a, .int b, .ref 92] (wd S E, sl) 0 (wd S' (E.set 7 (ol v.toInt64)), sl') := by
  refine ch_of (lv0 := [(0, .ref 1), (1, .int a), (2, .int b), (3, .ref 92)]) (by decide +kernel) tb_ofClock rfl (fun _ => by simp [lg_sl, j_v, Value.category]) (fun _ => rfl) ?_
  refine rn_aload_n dL_ofClock_0 rfl ?_
  refine rn_iconst (v := 0) dL_ofClock_1 rfl ?_
  refine rn_aload_n dL_ofClock_2 rfl ?_
  refine rn_iload_n dL_ofClock_3 rfl ?_
  refine rn_iload_n dL_ofClock_4 rfl ?_
  refine rn_callV dL_ofClock_5 cv_L_45 hc rfl h_SH rfl rfl h1 h2 rfl (Nat.le_of_ble_eq_true rfl) ?_
  refine rn_i2l dL_ofClock_8 rfl ?_
  refine rnE_ol hE dL_ofClock_9 ?_
  refine rn_goto (tgt := 21) dL_ofClock_10 rfl ?_
  refine rn_iconst (v := 0) dL_ofClock_21 rfl ?_
  exact rn_ret dL_ofClock_22 trivial rfl
set_option maxRecDepth 20000 in
theorem w_ofClock_x1 {a b : Int32} (hc : Cx l D ad tc L xs mX9_ofClock d' lo' [.ref 1, .int a, .int b] (wd S E, sl) 1) (h1 : d' + 1 ≤ 60) (h2 : 8 + (3 + 11) + lo' ≤ 3000) : Ch l D ad tc L xs mL_ofClock [(0, 10, 13, 21), (0, 10, 17, 15)] 60 3000 [.ref 1, .int a, .int b, .ref 92] (wd S E, sl) 1 (wd S (E ++ [j_x 1]), sl + 6) := by
  refine ch_of (lv0 := [(0, .ref 1), (1, .int a), (2, .int b), (3, .ref 92)]) (by decide +kernel) tb_ofClock rfl (fun _ => by simp [lg_sl, j_v, Value.category]) (fun _ => rfl) ?_
  refine rn_aload_n dL_ofClock_0 rfl ?_
  refine rn_iconst (v := 0) dL_ofClock_1 rfl ?_
  refine rn_aload_n dL_ofClock_2 rfl ?_
  refine rn_iload_n dL_ofClock_3 rfl ?_
  refine rn_iload_n dL_ofClock_4 rfl ?_
  refine rn_catchV (pre := []) (x := ⟨0, 10, 13, 21⟩) (suf := [⟨0, 10, 17, 15⟩]) (i := 4) (w := 2) dL_ofClock_5 cv_L_45 hc rfl h_SH rfl rfl h1 h2 rfl (Nat.le_of_ble_eq_true rfl) (by decide) (by rw [tb_ofClock]; rfl) (fun z hz => absurd hz List.not_mem_nil) (by decide) (by decide) wc_L_21 (Or.inl ⟨dL_ofClock_13, rfl⟩) (by decide) rfl ?_
  refine rn_h (h2 := (wd S (E ++ [j_x 1]), sl + 6)) (by unfold exh wd; rw [List.append_assoc]) ?_
  refine rn_iconst (v := 1) dL_ofClock_15 rfl ?_
  exact rn_ret dL_ofClock_16 trivial rfl
set_option maxRecDepth 20000 in
theorem w_ofClock_x2 {a b : Int32} (hc : Cx l D ad tc L xs mX9_ofClock d' lo' [.ref 1, .int a, .int b] (wd S E, sl) 2) (h1 : d' + 1 ≤ 60) (h2 : 8 + (3 + 11) + lo' ≤ 3000) : Ch l D ad tc L xs mL_ofClock [(0, 10, 13, 21), (0, 10, 17, 15)] 60 3000 [.ref 1, .int a, .int b, .ref 92] (wd S E, sl) 2 (wd S (E ++ [j_x 2]), sl + 6) := by
  refine ch_of (lv0 := [(0, .ref 1), (1, .int a), (2, .int b), (3, .ref 92)]) (by decide +kernel) tb_ofClock rfl (fun _ => by simp [lg_sl, j_v, Value.category]) (fun _ => rfl) ?_
  refine rn_aload_n dL_ofClock_0 rfl ?_
  refine rn_iconst (v := 0) dL_ofClock_1 rfl ?_
  refine rn_aload_n dL_ofClock_2 rfl ?_
  refine rn_iload_n dL_ofClock_3 rfl ?_
  refine rn_iload_n dL_ofClock_4 rfl ?_
  refine rn_catchV (pre := [⟨0, 10, 13, 21⟩]) (x := ⟨0, 10, 17, 15⟩) (suf := []) (i := 4) (w := 2) dL_ofClock_5 cv_L_45 hc rfl h_SH rfl rfl h1 h2 rfl (Nat.le_of_ble_eq_true rfl) (by decide) (by rw [tb_ofClock]; rfl) (fun z hz => by
      rw [List.mem_singleton] at hz
      subst hz
      exact ⟨by decide, 1, by decide, by decide, wc_L_21⟩) (by decide) (by decide) wc_L_15 (Or.inl ⟨dL_ofClock_17, rfl⟩) (by decide) rfl ?_
  refine rn_h (h2 := (wd S (E ++ [j_x 2]), sl + 6)) (by unfold exh wd; rw [List.append_assoc]) ?_
  refine rn_iconst (v := 2) dL_ofClock_19 rfl ?_
  exact rn_ret dL_ofClock_20 trivial rfl
theorem tb_ofNode : j_tab mL_ofNode.1 = [(0, 10, 13, 21), (0, 10, 17, 15)] := by decide +kernel
set_option maxRecDepth 20000 in
theorem w_ofNode_ok {a b : Int32} {v : Int32} {w : Int64} (hE : E[7]? = some (ol w)) (hc : Cn l D ad tc L xs mX9_ofNode d' lo' [.ref 1, .int a, .int b] (wd S E, sl) (some (.int v)) (wd S' E, sl')) (h1 : d' + 1 ≤ 60) (h2 : 8 + (3 + 11) + lo' ≤ 3000) : Ch l D ad tc L xs mL_ofNode [(0, 10, 13, 21), (0, 10, 17, 15)] 60 3000 [.ref 1, .int a, .int b, .ref 92] (wd S E, sl) 0 (wd S' (E.set 7 (ol v.toInt64)), sl') := by
  refine ch_of (lv0 := [(0, .ref 1), (1, .int a), (2, .int b), (3, .ref 92)]) (by decide +kernel) tb_ofNode rfl (fun _ => by simp [lg_sl, j_v, Value.category]) (fun _ => rfl) ?_
  refine rn_aload_n dL_ofNode_0 rfl ?_
  refine rn_iconst (v := 0) dL_ofNode_1 rfl ?_
  refine rn_aload_n dL_ofNode_2 rfl ?_
  refine rn_iload_n dL_ofNode_3 rfl ?_
  refine rn_iload_n dL_ofNode_4 rfl ?_
  refine rn_callV dL_ofNode_5 cv_L_48 hc rfl h_SH rfl rfl h1 h2 rfl (Nat.le_of_ble_eq_true rfl) ?_
  refine rn_i2l dL_ofNode_8 rfl ?_
  refine rnE_ol hE dL_ofNode_9 ?_
  refine rn_goto (tgt := 21) dL_ofNode_10 rfl ?_
  refine rn_iconst (v := 0) dL_ofNode_21 rfl ?_
  exact rn_ret dL_ofNode_22 trivial rfl
set_option maxRecDepth 20000 in
theorem w_ofNode_x1 {a b : Int32} (hc : Cx l D ad tc L xs mX9_ofNode d' lo' [.ref 1, .int a, .int b] (wd S E, sl) 1) (h1 : d' + 1 ≤ 60) (h2 : 8 + (3 + 11) + lo' ≤ 3000) : Ch l D ad tc L xs mL_ofNode [(0, 10, 13, 21), (0, 10, 17, 15)] 60 3000 [.ref 1, .int a, .int b, .ref 92] (wd S E, sl) 1 (wd S (E ++ [j_x 1]), sl + 6) := by
  refine ch_of (lv0 := [(0, .ref 1), (1, .int a), (2, .int b), (3, .ref 92)]) (by decide +kernel) tb_ofNode rfl (fun _ => by simp [lg_sl, j_v, Value.category]) (fun _ => rfl) ?_
  refine rn_aload_n dL_ofNode_0 rfl ?_
  refine rn_iconst (v := 0) dL_ofNode_1 rfl ?_
  refine rn_aload_n dL_ofNode_2 rfl ?_
  refine rn_iload_n dL_ofNode_3 rfl ?_
  refine rn_iload_n dL_ofNode_4 rfl ?_
  refine rn_catchV (pre := []) (x := ⟨0, 10, 13, 21⟩) (suf := [⟨0, 10, 17, 15⟩]) (i := 4) (w := 2) dL_ofNode_5 cv_L_48 hc rfl h_SH rfl rfl h1 h2 rfl (Nat.le_of_ble_eq_true rfl) (by decide) (by rw [tb_ofNode]; rfl) (fun z hz => absurd hz List.not_mem_nil) (by decide) (by decide) wc_L_21 (Or.inl ⟨dL_ofNode_13, rfl⟩) (by decide) rfl ?_
  refine rn_h (h2 := (wd S (E ++ [j_x 1]), sl + 6)) (by unfold exh wd; rw [List.append_assoc]) ?_
  refine rn_iconst (v := 1) dL_ofNode_15 rfl ?_
  exact rn_ret dL_ofNode_16 trivial rfl
set_option maxRecDepth 20000 in
theorem w_ofNode_x2 {a b : Int32} (hc : Cx l D ad tc L xs mX9_ofNode d' lo' [.ref 1, .int a, .int b] (wd S E, sl) 2) (h1 : d' + 1 ≤ 60) (h2 : 8 + (3 + 11) + lo' ≤ 3000) : Ch l D ad tc L xs mL_ofNode [(0, 10, 13, 21), (0, 10, 17, 15)] 60 3000 [.ref 1, .int a, .int b, .ref 92] (wd S E, sl) 2 (wd S (E ++ [j_x 2]), sl + 6) := by
  refine ch_of (lv0 := [(0, .ref 1), (1, .int a), (2, .int b), (3, .ref 92)]) (by decide +kernel) tb_ofNode rfl (fun _ => by simp [lg_sl, j_v, Value.category]) (fun _ => rfl) ?_
  refine rn_aload_n dL_ofNode_0 rfl ?_
  refine rn_iconst (v := 0) dL_ofNode_1 rfl ?_
  refine rn_aload_n dL_ofNode_2 rfl ?_
  refine rn_iload_n dL_ofNode_3 rfl ?_
  refine rn_iload_n dL_ofNode_4 rfl ?_
  refine rn_catchV (pre := [⟨0, 10, 13, 21⟩]) (x := ⟨0, 10, 17, 15⟩) (suf := []) (i := 4) (w := 2) dL_ofNode_5 cv_L_48 hc rfl h_SH rfl rfl h1 h2 rfl (Nat.le_of_ble_eq_true rfl) (by decide) (by rw [tb_ofNode]; rfl) (fun z hz => by
      rw [List.mem_singleton] at hz
      subst hz
      exact ⟨by decide, 1, by decide, by decide, wc_L_21⟩) (by decide) (by decide) wc_L_15 (Or.inl ⟨dL_ofNode_17, rfl⟩) (by decide) rfl ?_
  refine rn_h (h2 := (wd S (E ++ [j_x 2]), sl + 6)) (by unfold exh wd; rw [List.append_assoc]) ?_
  refine rn_iconst (v := 2) dL_ofNode_19 rfl ?_
  exact rn_ret dL_ofNode_20 trivial rfl
theorem tb_size : j_tab mL_size.1 = [(0, 10, 13, 13), (0, 10, 17, 21), (0, 10, 21, 15)] := by decide +kernel
set_option maxRecDepth 20000 in
theorem w_size_ok {a b : Int32} {v : Int32} {w : Int64} (hE : E[7]? = some (ol w)) (hc : Cn l D ad tc L xs mX9_size d' lo' [.ref 1, .int a, .int b] (wd S E, sl) (some (.int v)) (wd S' E, sl')) (h1 : d' + 1 ≤ 60) (h2 : 8 + (4 + 11) + lo' ≤ 3000) : Ch l D ad tc L xs mL_size [(0, 10, 13, 13), (0, 10, 17, 21), (0, 10, 21, 15)] 60 3000 [.ref 1, .int a, .int b, .ref 92] (wd S E, sl) 0 (wd S' (E.set 7 (ol v.toInt64)), sl') := by
  refine ch_of (lv0 := [(0, .ref 1), (1, .int a), (2, .int b), (3, .ref 92)]) (by decide +kernel) tb_size rfl (fun _ => by simp [lg_sl, j_v, Value.category]) (fun _ => rfl) ?_
  refine rn_aload_n dL_size_0 rfl ?_
  refine rn_iconst (v := 0) dL_size_1 rfl ?_
  refine rn_aload_n dL_size_2 rfl ?_
  refine rn_iload_n dL_size_3 rfl ?_
  refine rn_iload_n dL_size_4 rfl ?_
  refine rn_callV dL_size_5 cv_L_33 hc rfl h_SH rfl rfl h1 h2 rfl (Nat.le_of_ble_eq_true rfl) ?_
  refine rn_i2l dL_size_8 rfl ?_
  refine rnE_ol hE dL_size_9 ?_
  refine rn_goto (tgt := 25) dL_size_10 rfl ?_
  refine rn_iconst (v := 0) dL_size_25 rfl ?_
  exact rn_ret dL_size_26 trivial rfl
set_option maxRecDepth 20000 in
theorem w_size_x1 {a b : Int32} (hc : Cx l D ad tc L xs mX9_size d' lo' [.ref 1, .int a, .int b] (wd S E, sl) 1) (h1 : d' + 1 ≤ 60) (h2 : 8 + (4 + 11) + lo' ≤ 3000) : Ch l D ad tc L xs mL_size [(0, 10, 13, 13), (0, 10, 17, 21), (0, 10, 21, 15)] 60 3000 [.ref 1, .int a, .int b, .ref 92] (wd S E, sl) 2 (wd S (E ++ [j_x 1]), sl + 6) := by
  refine ch_of (lv0 := [(0, .ref 1), (1, .int a), (2, .int b), (3, .ref 92)]) (by decide +kernel) tb_size rfl (fun _ => by simp [lg_sl, j_v, Value.category]) (fun _ => rfl) ?_
  refine rn_aload_n dL_size_0 rfl ?_
  refine rn_iconst (v := 0) dL_size_1 rfl ?_
  refine rn_aload_n dL_size_2 rfl ?_
  refine rn_iload_n dL_size_3 rfl ?_
  refine rn_iload_n dL_size_4 rfl ?_
  refine rn_catchV (pre := [⟨0, 10, 13, 13⟩]) (x := ⟨0, 10, 17, 21⟩) (suf := [⟨0, 10, 21, 15⟩]) (i := 4) (w := 2) dL_size_5 cv_L_33 hc rfl h_SH rfl rfl h1 h2 rfl (Nat.le_of_ble_eq_true rfl) (by decide) (by rw [tb_size]; rfl) (fun z hz => by
      rw [List.mem_singleton] at hz
      subst hz
      exact ⟨by decide, 0, by decide, by decide, wc_L_13⟩) (by decide) (by decide) wc_L_21 (Or.inl ⟨dL_size_17, rfl⟩) (by decide) rfl ?_
  refine rn_h (h2 := (wd S (E ++ [j_x 1]), sl + 6)) (by unfold exh wd; rw [List.append_assoc]) ?_
  refine rn_iconst (v := 2) dL_size_19 rfl ?_
  exact rn_ret dL_size_20 trivial rfl
set_option maxRecDepth 20000 in
theorem w_size_x2 {a b : Int32} (hc : Cx l D ad tc L xs mX9_size d' lo' [.ref 1, .int a, .int b] (wd S E, sl) 2) (h1 : d' + 1 ≤ 60) (h2 : 8 + (4 + 11) + lo' ≤ 3000) : Ch l D ad tc L xs mL_size [(0, 10, 13, 13), (0, 10, 17, 21), (0, 10, 21, 15)] 60 3000 [.ref 1, .int a, .int b, .ref 92] (wd S E, sl) 3 (wd S (E ++ [j_x 2]), sl + 6) := by
  refine ch_of (lv0 := [(0, .ref 1), (1, .int a), (2, .int b), (3, .ref 92)]) (by decide +kernel) tb_size rfl (fun _ => by simp [lg_sl, j_v, Value.category]) (fun _ => rfl) ?_
  refine rn_aload_n dL_size_0 rfl ?_
  refine rn_iconst (v := 0) dL_size_1 rfl ?_
  refine rn_aload_n dL_size_2 rfl ?_
  refine rn_iload_n dL_size_3 rfl ?_
  refine rn_iload_n dL_size_4 rfl ?_
  refine rn_catchV (pre := [⟨0, 10, 13, 13⟩, ⟨0, 10, 17, 21⟩]) (x := ⟨0, 10, 21, 15⟩) (suf := []) (i := 4) (w := 2) dL_size_5 cv_L_33 hc rfl h_SH rfl rfl h1 h2 rfl (Nat.le_of_ble_eq_true rfl) (by decide) (by rw [tb_size]; rfl) (fun z hz => by
      simp only [List.mem_cons, List.not_mem_nil, or_false] at hz
      rcases hz with rfl | rfl
      · exact ⟨by decide, 0, by decide, by decide, wc_L_13⟩
      · exact ⟨by decide, 1, by decide, by decide, wc_L_21⟩) (by decide) (by decide) wc_L_15 (Or.inl ⟨dL_size_21, rfl⟩) (by decide) rfl ?_
  refine rn_h (h2 := (wd S (E ++ [j_x 2]), sl + 6)) (by unfold exh wd; rw [List.append_assoc]) ?_
  refine rn_iconst (v := 3) dL_size_23 rfl ?_
  exact rn_ret dL_size_24 trivial rfl
theorem tb_skew : j_tab mL_skew.1 = [(0, 10, 13, 13), (0, 10, 17, 21), (0, 10, 21, 15)] := by decide +kernel
set_option maxRecDepth 20000 in
theorem w_skew_ok {a b : Int32} {v : Int32} {w : Int64} (hE : E[7]? = some (ol w)) (hc : Cn l D ad tc L xs mX9_skew d' lo' [.ref 1, .int a, .int b] (wd S E, sl) (some (.int v)) (wd S' E, sl')) (h1 : d' + 1 ≤ 60) (h2 : 8 + (4 + 11) + lo' ≤ 3000) : Ch l D ad tc L xs mL_skew [(0, 10, 13, 13), (0, 10, 17, 21), (0, 10, 21, 15)] 60 3000 [.ref 1, .int a, .int b, .ref 92] (wd S E, sl) 0 (wd S' (E.set 7 (ol v.toInt64)), sl') := by
  refine ch_of (lv0 := [(0, .ref 1), (1, .int a), (2, .int b), (3, .ref 92)]) (by decide +kernel) tb_skew rfl (fun _ => by simp [lg_sl, j_v, Value.category]) (fun _ => rfl) ?_
  refine rn_aload_n dL_skew_0 rfl ?_
  refine rn_iconst (v := 0) dL_skew_1 rfl ?_
  refine rn_aload_n dL_skew_2 rfl ?_
  refine rn_iload_n dL_skew_3 rfl ?_
  refine rn_iload_n dL_skew_4 rfl ?_
  refine rn_callV dL_skew_5 cv_L_39 hc rfl h_SH rfl rfl h1 h2 rfl (Nat.le_of_ble_eq_true rfl) ?_
  refine rn_i2l dL_skew_8 rfl ?_
  refine rnE_ol hE dL_skew_9 ?_
  refine rn_goto (tgt := 25) dL_skew_10 rfl ?_
  refine rn_iconst (v := 0) dL_skew_25 rfl ?_
  exact rn_ret dL_skew_26 trivial rfl
set_option maxRecDepth 20000 in
theorem w_skew_x1 {a b : Int32} (hc : Cx l D ad tc L xs mX9_skew d' lo' [.ref 1, .int a, .int b] (wd S E, sl) 1) (h1 : d' + 1 ≤ 60) (h2 : 8 + (4 + 11) + lo' ≤ 3000) : Ch l D ad tc L xs mL_skew [(0, 10, 13, 13), (0, 10, 17, 21), (0, 10, 21, 15)] 60 3000 [.ref 1, .int a, .int b, .ref 92] (wd S E, sl) 2 (wd S (E ++ [j_x 1]), sl + 6) := by
  refine ch_of (lv0 := [(0, .ref 1), (1, .int a), (2, .int b), (3, .ref 92)]) (by decide +kernel) tb_skew rfl (fun _ => by simp [lg_sl, j_v, Value.category]) (fun _ => rfl) ?_
  refine rn_aload_n dL_skew_0 rfl ?_
  refine rn_iconst (v := 0) dL_skew_1 rfl ?_
  refine rn_aload_n dL_skew_2 rfl ?_
  refine rn_iload_n dL_skew_3 rfl ?_
  refine rn_iload_n dL_skew_4 rfl ?_
  refine rn_catchV (pre := [⟨0, 10, 13, 13⟩]) (x := ⟨0, 10, 17, 21⟩) (suf := [⟨0, 10, 21, 15⟩]) (i := 4) (w := 2) dL_skew_5 cv_L_39 hc rfl h_SH rfl rfl h1 h2 rfl (Nat.le_of_ble_eq_true rfl) (by decide) (by rw [tb_skew]; rfl) (fun z hz => by
      rw [List.mem_singleton] at hz
      subst hz
      exact ⟨by decide, 0, by decide, by decide, wc_L_13⟩) (by decide) (by decide) wc_L_21 (Or.inl ⟨dL_skew_17, rfl⟩) (by decide) rfl ?_
  refine rn_h (h2 := (wd S (E ++ [j_x 1]), sl + 6)) (by unfold exh wd; rw [List.append_assoc]) ?_
  refine rn_iconst (v := 2) dL_skew_19 rfl ?_
  exact rn_ret dL_skew_20 trivial rfl
set_option maxRecDepth 20000 in
theorem w_skew_x2 {a b : Int32} (hc : Cx l D ad tc L xs mX9_skew d' lo' [.ref 1, .int a, .int b] (wd S E, sl) 2) (h1 : d' + 1 ≤ 60) (h2 : 8 + (4 + 11) + lo' ≤ 3000) : Ch l D ad tc L xs mL_skew [(0, 10, 13, 13), (0, 10, 17, 21), (0, 10, 21, 15)] 60 3000 [.ref 1, .int a, .int b, .ref 92] (wd S E, sl) 3 (wd S (E ++ [j_x 2]), sl + 6) := by
  refine ch_of (lv0 := [(0, .ref 1), (1, .int a), (2, .int b), (3, .ref 92)]) (by decide +kernel) tb_skew rfl (fun _ => by simp [lg_sl, j_v, Value.category]) (fun _ => rfl) ?_
  refine rn_aload_n dL_skew_0 rfl ?_
  refine rn_iconst (v := 0) dL_skew_1 rfl ?_
  refine rn_aload_n dL_skew_2 rfl ?_
  refine rn_iload_n dL_skew_3 rfl ?_
  refine rn_iload_n dL_skew_4 rfl ?_
  refine rn_catchV (pre := [⟨0, 10, 13, 13⟩, ⟨0, 10, 17, 21⟩]) (x := ⟨0, 10, 21, 15⟩) (suf := []) (i := 4) (w := 2) dL_skew_5 cv_L_39 hc rfl h_SH rfl rfl h1 h2 rfl (Nat.le_of_ble_eq_true rfl) (by decide) (by rw [tb_skew]; rfl) (fun z hz => by
      simp only [List.mem_cons, List.not_mem_nil, or_false] at hz
      rcases hz with rfl | rfl
      · exact ⟨by decide, 0, by decide, by decide, wc_L_13⟩
      · exact ⟨by decide, 1, by decide, by decide, wc_L_21⟩) (by decide) (by decide) wc_L_15 (Or.inl ⟨dL_skew_21, rfl⟩) (by decide) rfl ?_
  refine rn_h (h2 := (wd S (E ++ [j_x 2]), sl + 6)) (by unfold exh wd; rw [List.append_assoc]) ?_
  refine rn_iconst (v := 3) dL_skew_23 rfl ?_
  exact rn_ret dL_skew_24 trivial rfl
theorem tb_takes : j_tab mL_takes.1 = [(0, 9, 12, 21)] := by decide +kernel
set_option maxRecDepth 20000 in
theorem w_takes_ok {a b : Int32} {v w : UInt64} (hE : E[8]? = some (od w)) (hc : Cn l D ad tc L xs mX9_takes d' lo' [.ref 1, .int a, .int b] (wd S E, sl) (some (.double v)) (wd S' E, sl')) (h1 : d' + 1 ≤ 60) (h2 : 8 + (3 + 11) + lo' ≤ 3000) : Ch l D ad tc L xs mL_takes [(0, 9, 12, 21)] 60 3000 [.ref 1, .int a, .int b, .ref 93] (wd S E, sl) 0 (wd S' (E.set 8 (od v)), sl') := by
  refine ch_of (lv0 := [(0, .ref 1), (1, .int a), (2, .int b), (3, .ref 93)]) (by decide +kernel) tb_takes rfl (fun _ => by simp [lg_sl, j_v, Value.category]) (fun _ => rfl) ?_
  refine rn_aload_n dL_takes_0 rfl ?_
  refine rn_iconst (v := 0) dL_takes_1 rfl ?_
  refine rn_aload_n dL_takes_2 rfl ?_
  refine rn_iload_n dL_takes_3 rfl ?_
  refine rn_iload_n dL_takes_4 rfl ?_
  refine rn_callV dL_takes_5 cv_L_55 hc rfl h_SH rfl rfl h1 h2 rfl (Nat.le_of_ble_eq_true rfl) ?_
  refine rnE_od hE dL_takes_8 ?_
  refine rn_goto (tgt := 16) dL_takes_9 rfl ?_
  refine rn_iconst (v := 0) dL_takes_16 rfl ?_
  exact rn_ret dL_takes_17 trivial rfl
set_option maxRecDepth 20000 in
theorem w_takes_x1 {a b : Int32} (hc : Cx l D ad tc L xs mX9_takes d' lo' [.ref 1, .int a, .int b] (wd S E, sl) 1) (h1 : d' + 1 ≤ 60) (h2 : 8 + (3 + 11) + lo' ≤ 3000) : Ch l D ad tc L xs mL_takes [(0, 9, 12, 21)] 60 3000 [.ref 1, .int a, .int b, .ref 93] (wd S E, sl) 1 (wd S (E ++ [j_x 1]), sl + 6) := by
  refine ch_of (lv0 := [(0, .ref 1), (1, .int a), (2, .int b), (3, .ref 93)]) (by decide +kernel) tb_takes rfl (fun _ => by simp [lg_sl, j_v, Value.category]) (fun _ => rfl) ?_
  refine rn_aload_n dL_takes_0 rfl ?_
  refine rn_iconst (v := 0) dL_takes_1 rfl ?_
  refine rn_aload_n dL_takes_2 rfl ?_
  refine rn_iload_n dL_takes_3 rfl ?_
  refine rn_iload_n dL_takes_4 rfl ?_
  refine rn_catchV (pre := []) (x := ⟨0, 9, 12, 21⟩) (suf := []) (i := 4) (w := 2) dL_takes_5 cv_L_55 hc rfl h_SH rfl rfl h1 h2 rfl (Nat.le_of_ble_eq_true rfl) (by decide) (by rw [tb_takes]; rfl) (fun z hz => absurd hz List.not_mem_nil) (by decide) (by decide) wc_L_21 (Or.inl ⟨dL_takes_12, rfl⟩) (by decide) rfl ?_
  refine rn_h (h2 := (wd S (E ++ [j_x 1]), sl + 6)) (by unfold exh wd; rw [List.append_assoc]) ?_
  refine rn_iconst (v := 1) dL_takes_14 rfl ?_
  exact rn_ret dL_takes_15 trivial rfl
theorem tb_ways : j_tab mL_ways.1 = [(0, 10, 13, 21), (0, 10, 17, 15)] := by decide +kernel
set_option maxRecDepth 20000 in
theorem w_ways_ok {a b : Int32} {v : Int32} {w : Int64} (hE : E[7]? = some (ol w)) (hc : Cn l D ad tc L xs mX9_ways d' lo' [.ref 1, .int a, .int b] (wd S E, sl) (some (.int v)) (wd S' E, sl')) (h1 : d' + 1 ≤ 60) (h2 : 8 + (4 + 11) + lo' ≤ 3000) : Ch l D ad tc L xs mL_ways [(0, 10, 13, 21), (0, 10, 17, 15)] 60 3000 [.ref 1, .int a, .int b, .ref 92] (wd S E, sl) 0 (wd S' (E.set 7 (ol v.toInt64)), sl') := by
  refine ch_of (lv0 := [(0, .ref 1), (1, .int a), (2, .int b), (3, .ref 92)]) (by decide +kernel) tb_ways rfl (fun _ => by simp [lg_sl, j_v, Value.category]) (fun _ => rfl) ?_
  refine rn_aload_n dL_ways_0 rfl ?_
  refine rn_iconst (v := 0) dL_ways_1 rfl ?_
  refine rn_aload_n dL_ways_2 rfl ?_
  refine rn_iload_n dL_ways_3 rfl ?_
  refine rn_iload_n dL_ways_4 rfl ?_
  refine rn_callV dL_ways_5 cv_L_78 hc rfl h_SH rfl rfl h1 h2 rfl (Nat.le_of_ble_eq_true rfl) ?_
  refine rn_i2l dL_ways_8 rfl ?_
  refine rnE_ol hE dL_ways_9 ?_
  refine rn_goto (tgt := 21) dL_ways_10 rfl ?_
  refine rn_iconst (v := 0) dL_ways_21 rfl ?_
  exact rn_ret dL_ways_22 trivial rfl
set_option maxRecDepth 20000 in
theorem w_ways_x1 {a b : Int32} (hc : Cx l D ad tc L xs mX9_ways d' lo' [.ref 1, .int a, .int b] (wd S E, sl) 1) (h1 : d' + 1 ≤ 60) (h2 : 8 + (4 + 11) + lo' ≤ 3000) : Ch l D ad tc L xs mL_ways [(0, 10, 13, 21), (0, 10, 17, 15)] 60 3000 [.ref 1, .int a, .int b, .ref 92] (wd S E, sl) 1 (wd S (E ++ [j_x 1]), sl + 6) := by
  refine ch_of (lv0 := [(0, .ref 1), (1, .int a), (2, .int b), (3, .ref 92)]) (by decide +kernel) tb_ways rfl (fun _ => by simp [lg_sl, j_v, Value.category]) (fun _ => rfl) ?_
  refine rn_aload_n dL_ways_0 rfl ?_
  refine rn_iconst (v := 0) dL_ways_1 rfl ?_
  refine rn_aload_n dL_ways_2 rfl ?_
  refine rn_iload_n dL_ways_3 rfl ?_
  refine rn_iload_n dL_ways_4 rfl ?_
  refine rn_catchV (pre := []) (x := ⟨0, 10, 13, 21⟩) (suf := [⟨0, 10, 17, 15⟩]) (i := 4) (w := 2) dL_ways_5 cv_L_78 hc rfl h_SH rfl rfl h1 h2 rfl (Nat.le_of_ble_eq_true rfl) (by decide) (by rw [tb_ways]; rfl) (fun z hz => absurd hz List.not_mem_nil) (by decide) (by decide) wc_L_21 (Or.inl ⟨dL_ways_13, rfl⟩) (by decide) rfl ?_
  refine rn_h (h2 := (wd S (E ++ [j_x 1]), sl + 6)) (by unfold exh wd; rw [List.append_assoc]) ?_
  refine rn_iconst (v := 1) dL_ways_15 rfl ?_
  exact rn_ret dL_ways_16 trivial rfl
set_option maxRecDepth 20000 in
theorem w_ways_x2 {a b : Int32} (hc : Cx l D ad tc L xs mX9_ways d' lo' [.ref 1, .int a, .int b] (wd S E, sl) 2) (h1 : d' + 1 ≤ 60) (h2 : 8 + (4 + 11) + lo' ≤ 3000) : Ch l D ad tc L xs mL_ways [(0, 10, 13, 21), (0, 10, 17, 15)] 60 3000 [.ref 1, .int a, .int b, .ref 92] (wd S E, sl) 2 (wd S (E ++ [j_x 2]), sl + 6) := by
  refine ch_of (lv0 := [(0, .ref 1), (1, .int a), (2, .int b), (3, .ref 92)]) (by decide +kernel) tb_ways rfl (fun _ => by simp [lg_sl, j_v, Value.category]) (fun _ => rfl) ?_
  refine rn_aload_n dL_ways_0 rfl ?_
  refine rn_iconst (v := 0) dL_ways_1 rfl ?_
  refine rn_aload_n dL_ways_2 rfl ?_
  refine rn_iload_n dL_ways_3 rfl ?_
  refine rn_iload_n dL_ways_4 rfl ?_
  refine rn_catchV (pre := [⟨0, 10, 13, 21⟩]) (x := ⟨0, 10, 17, 15⟩) (suf := []) (i := 4) (w := 2) dL_ways_5 cv_L_78 hc rfl h_SH rfl rfl h1 h2 rfl (Nat.le_of_ble_eq_true rfl) (by decide) (by rw [tb_ways]; rfl) (fun z hz => by
      rw [List.mem_singleton] at hz
      subst hz
      exact ⟨by decide, 1, by decide, by decide, wc_L_21⟩) (by decide) (by decide) wc_L_15 (Or.inl ⟨dL_ways_17, rfl⟩) (by decide) rfl ?_
  refine rn_h (h2 := (wd S (E ++ [j_x 2]), sl + 6)) (by unfold exh wd; rw [List.append_assoc]) ?_
  refine rn_iconst (v := 2) dL_ways_19 rfl ?_
  exact rn_ret dL_ways_20 trivial rfl
theorem tb_winner : j_tab mL_winner.1 = [(0, 10, 13, 21), (0, 10, 17, 15)] := by decide +kernel
set_option maxRecDepth 20000 in
theorem w_winner_ok {a b : Int32} {v : Int32} {w : Int64} (hE : E[7]? = some (ol w)) (hc : Cn l D ad tc L xs mX9_winner d' lo' [.ref 1, .int a, .int b] (wd S E, sl) (some (.int v)) (wd S' E, sl')) (h1 : d' + 1 ≤ 60) (h2 : 8 + (3 + 11) + lo' ≤ 3000) : Ch l D ad tc L xs mL_winner [(0, 10, 13, 21), (0, 10, 17, 15)] 60 3000 [.ref 1, .int a, .int b, .ref 92] (wd S E, sl) 0 (wd S' (E.set 7 (ol v.toInt64)), sl') := by
  refine ch_of (lv0 := [(0, .ref 1), (1, .int a), (2, .int b), (3, .ref 92)]) (by decide +kernel) tb_winner rfl (fun _ => by simp [lg_sl, j_v, Value.category]) (fun _ => rfl) ?_
  refine rn_aload_n dL_winner_0 rfl ?_
  refine rn_iconst (v := 0) dL_winner_1 rfl ?_
  refine rn_aload_n dL_winner_2 rfl ?_
  refine rn_iload_n dL_winner_3 rfl ?_
  refine rn_iload_n dL_winner_4 rfl ?_
  refine rn_callV dL_winner_5 cv_L_63 hc rfl h_SH rfl rfl h1 h2 rfl (Nat.le_of_ble_eq_true rfl) ?_
  refine rn_i2l dL_winner_8 rfl ?_
  refine rnE_ol hE dL_winner_9 ?_
  refine rn_goto (tgt := 21) dL_winner_10 rfl ?_
  refine rn_iconst (v := 0) dL_winner_21 rfl ?_
  exact rn_ret dL_winner_22 trivial rfl
set_option maxRecDepth 20000 in
theorem w_winner_x1 {a b : Int32} (hc : Cx l D ad tc L xs mX9_winner d' lo' [.ref 1, .int a, .int b] (wd S E, sl) 1) (h1 : d' + 1 ≤ 60) (h2 : 8 + (3 + 11) + lo' ≤ 3000) : Ch l D ad tc L xs mL_winner [(0, 10, 13, 21), (0, 10, 17, 15)] 60 3000 [.ref 1, .int a, .int b, .ref 92] (wd S E, sl) 1 (wd S (E ++ [j_x 1]), sl + 6) := by
  refine ch_of (lv0 := [(0, .ref 1), (1, .int a), (2, .int b), (3, .ref 92)]) (by decide +kernel) tb_winner rfl (fun _ => by simp [lg_sl, j_v, Value.category]) (fun _ => rfl) ?_
  refine rn_aload_n dL_winner_0 rfl ?_
  refine rn_iconst (v := 0) dL_winner_1 rfl ?_
  refine rn_aload_n dL_winner_2 rfl ?_
  refine rn_iload_n dL_winner_3 rfl ?_
  refine rn_iload_n dL_winner_4 rfl ?_
  refine rn_catchV (pre := []) (x := ⟨0, 10, 13, 21⟩) (suf := [⟨0, 10, 17, 15⟩]) (i := 4) (w := 2) dL_winner_5 cv_L_63 hc rfl h_SH rfl rfl h1 h2 rfl (Nat.le_of_ble_eq_true rfl) (by decide) (by rw [tb_winner]; rfl) (fun z hz => absurd hz List.not_mem_nil) (by decide) (by decide) wc_L_21 (Or.inl ⟨dL_winner_13, rfl⟩) (by decide) rfl ?_
  refine rn_h (h2 := (wd S (E ++ [j_x 1]), sl + 6)) (by unfold exh wd; rw [List.append_assoc]) ?_
  refine rn_iconst (v := 1) dL_winner_15 rfl ?_
  exact rn_ret dL_winner_16 trivial rfl
set_option maxRecDepth 20000 in
theorem w_winner_x2 {a b : Int32} (hc : Cx l D ad tc L xs mX9_winner d' lo' [.ref 1, .int a, .int b] (wd S E, sl) 2) (h1 : d' + 1 ≤ 60) (h2 : 8 + (3 + 11) + lo' ≤ 3000) : Ch l D ad tc L xs mL_winner [(0, 10, 13, 21), (0, 10, 17, 15)] 60 3000 [.ref 1, .int a, .int b, .ref 92] (wd S E, sl) 2 (wd S (E ++ [j_x 2]), sl + 6) := by
  refine ch_of (lv0 := [(0, .ref 1), (1, .int a), (2, .int b), (3, .ref 92)]) (by decide +kernel) tb_winner rfl (fun _ => by simp [lg_sl, j_v, Value.category]) (fun _ => rfl) ?_
  refine rn_aload_n dL_winner_0 rfl ?_
  refine rn_iconst (v := 0) dL_winner_1 rfl ?_
  refine rn_aload_n dL_winner_2 rfl ?_
  refine rn_iload_n dL_winner_3 rfl ?_
  refine rn_iload_n dL_winner_4 rfl ?_
  refine rn_catchV (pre := [⟨0, 10, 13, 21⟩]) (x := ⟨0, 10, 17, 15⟩) (suf := []) (i := 4) (w := 2) dL_winner_5 cv_L_63 hc rfl h_SH rfl rfl h1 h2 rfl (Nat.le_of_ble_eq_true rfl) (by decide) (by rw [tb_winner]; rfl) (fun z hz => by
      rw [List.mem_singleton] at hz
      subst hz
      exact ⟨by decide, 1, by decide, by decide, wc_L_21⟩) (by decide) (by decide) wc_L_15 (Or.inl ⟨dL_winner_17, rfl⟩) (by decide) rfl ?_
  refine rn_h (h2 := (wd S (E ++ [j_x 2]), sl + 6)) (by unfold exh wd; rw [List.append_assoc]) ?_
  refine rn_iconst (v := 2) dL_winner_19 rfl ?_
  exact rn_ret dL_winner_20 trivial rfl
theorem tb_wire : j_tab mL_wire.1 = [(0, 10, 13, 13), (0, 10, 17, 21), (0, 10, 21, 15)] := by decide +kernel
set_option maxRecDepth 20000 in
theorem w_wire_ok {a b : Int32} {v : Int32} {w : Int64} (hE : E[7]? = some (ol w)) (hc : Cn l D ad tc L xs mX9_wire d' lo' [.ref 1, .int a, .int b] (wd S E, sl) (some (.int v)) (wd S' E, sl')) (h1 : d' + 1 ≤ 60) (h2 : 8 + (3 + 11) + lo' ≤ 3000) : Ch l D ad tc L xs mL_wire [(0, 10, 13, 13), (0, 10, 17, 21), (0, 10, 21, 15)] 60 3000 [.ref 1, .int a, .int b, .ref 92] (wd S E, sl) 0 (wd S' (E.set 7 (ol v.toInt64)), sl') := by
  refine ch_of (lv0 := [(0, .ref 1), (1, .int a), (2, .int b), (3, .ref 92)]) (by decide +kernel) tb_wire rfl (fun _ => by simp [lg_sl, j_v, Value.category]) (fun _ => rfl) ?_
  refine rn_aload_n dL_wire_0 rfl ?_
  refine rn_iconst (v := 0) dL_wire_1 rfl ?_
  refine rn_aload_n dL_wire_2 rfl ?_
  refine rn_iload_n dL_wire_3 rfl ?_
  refine rn_iload_n dL_wire_4 rfl ?_
  refine rn_callV dL_wire_5 cv_L_36 hc rfl h_SH rfl rfl h1 h2 rfl (Nat.le_of_ble_eq_true rfl) ?_
  refine rn_i2l dL_wire_8 rfl ?_
  refine rnE_ol hE dL_wire_9 ?_
  refine rn_goto (tgt := 25) dL_wire_10 rfl ?_
  refine rn_iconst (v := 0) dL_wire_25 rfl ?_
  exact rn_ret dL_wire_26 trivial rfl
set_option maxRecDepth 20000 in
theorem w_wire_x1 {a b : Int32} (hc : Cx l D ad tc L xs mX9_wire d' lo' [.ref 1, .int a, .int b] (wd S E, sl) 1) (h1 : d' + 1 ≤ 60) (h2 : 8 + (3 + 11) + lo' ≤ 3000) : Ch l D ad tc L xs mL_wire [(0, 10, 13, 13), (0, 10, 17, 21), (0, 10, 21, 15)] 60 3000 [.ref 1, .int a, .int b, .ref 92] (wd S E, sl) 2 (wd S (E ++ [j_x 1]), sl + 6) := by
  refine ch_of (lv0 := [(0, .ref 1), (1, .int a), (2, .int b), (3, .ref 92)]) (by decide +kernel) tb_wire rfl (fun _ => by simp [lg_sl, j_v, Value.category]) (fun _ => rfl) ?_
  refine rn_aload_n dL_wire_0 rfl ?_
  refine rn_iconst (v := 0) dL_wire_1 rfl ?_
  refine rn_aload_n dL_wire_2 rfl ?_
  refine rn_iload_n dL_wire_3 rfl ?_
  refine rn_iload_n dL_wire_4 rfl ?_
  refine rn_catchV (pre := [⟨0, 10, 13, 13⟩]) (x := ⟨0, 10, 17, 21⟩) (suf := [⟨0, 10, 21, 15⟩]) (i := 4) (w := 2) dL_wire_5 cv_L_36 hc rfl h_SH rfl rfl h1 h2 rfl (Nat.le_of_ble_eq_true rfl) (by decide) (by rw [tb_wire]; rfl) (fun z hz => by
      rw [List.mem_singleton] at hz
      subst hz
      exact ⟨by decide, 0, by decide, by decide, wc_L_13⟩) (by decide) (by decide) wc_L_21 (Or.inl ⟨dL_wire_17, rfl⟩) (by decide) rfl ?_
  refine rn_h (h2 := (wd S (E ++ [j_x 1]), sl + 6)) (by unfold exh wd; rw [List.append_assoc]) ?_
  refine rn_iconst (v := 2) dL_wire_19 rfl ?_
  exact rn_ret dL_wire_20 trivial rfl
set_option maxRecDepth 20000 in
theorem w_wire_x2 {a b : Int32} (hc : Cx l D ad tc L xs mX9_wire d' lo' [.ref 1, .int a, .int b] (wd S E, sl) 2) (h1 : d' + 1 ≤ 60) (h2 : 8 + (3 + 11) + lo' ≤ 3000) : Ch l D ad tc L xs mL_wire [(0, 10, 13, 13), (0, 10, 17, 21), (0, 10, 21, 15)] 60 3000 [.ref 1, .int a, .int b, .ref 92] (wd S E, sl) 3 (wd S (E ++ [j_x 2]), sl + 6) := by
  refine ch_of (lv0 := [(0, .ref 1), (1, .int a), (2, .int b), (3, .ref 92)]) (by decide +kernel) tb_wire rfl (fun _ => by simp [lg_sl, j_v, Value.category]) (fun _ => rfl) ?_
  refine rn_aload_n dL_wire_0 rfl ?_
  refine rn_iconst (v := 0) dL_wire_1 rfl ?_
  refine rn_aload_n dL_wire_2 rfl ?_
  refine rn_iload_n dL_wire_3 rfl ?_
  refine rn_iload_n dL_wire_4 rfl ?_
  refine rn_catchV (pre := [⟨0, 10, 13, 13⟩, ⟨0, 10, 17, 21⟩]) (x := ⟨0, 10, 21, 15⟩) (suf := []) (i := 4) (w := 2) dL_wire_5 cv_L_36 hc rfl h_SH rfl rfl h1 h2 rfl (Nat.le_of_ble_eq_true rfl) (by decide) (by rw [tb_wire]; rfl) (fun z hz => by
      simp only [List.mem_cons, List.not_mem_nil, or_false] at hz
      rcases hz with rfl | rfl
      · exact ⟨by decide, 0, by decide, by decide, wc_L_13⟩
      · exact ⟨by decide, 1, by decide, by decide, wc_L_21⟩) (by decide) (by decide) wc_L_15 (Or.inl ⟨dL_wire_21, rfl⟩) (by decide) rfl ?_
  refine rn_h (h2 := (wd S (E ++ [j_x 2]), sl + 6)) (by unfold exh wd; rw [List.append_assoc]) ?_
  refine rn_iconst (v := 3) dL_wire_23 rfl ?_
  exact rn_ret dL_wire_24 trivial rfl
theorem tb_worst : j_tab mL_worst.1 = [(0, 10, 13, 21), (0, 10, 17, 15)] := by decide +kernel
set_option maxRecDepth 20000 in
theorem w_worst_ok {a b : Int32} {v : Int32} {w : Int64} (hE : E[7]? = some (ol w)) (hc : Cn l D ad tc L xs mX9_worst d' lo' [.ref 1, .int a, .int b] (wd S E, sl) (some (.int v)) (wd S' E, sl')) (h1 : d' + 1 ≤ 60) (h2 : 8 + (3 + 11) + lo' ≤ 3000) : Ch l D ad tc L xs mL_worst [(0, 10, 13, 21), (0, 10, 17, 15)] 60 3000 [.ref 1, .int a, .int b, .ref 92] (wd S E, sl) 0 (wd S' (E.set 7 (ol v.toInt64)), sl') := by
  refine ch_of (lv0 := [(0, .ref 1), (1, .int a), (2, .int b), (3, .ref 92)]) (by decide +kernel) tb_worst rfl (fun _ => by simp [lg_sl, j_v, Value.category]) (fun _ => rfl) ?_
  refine rn_aload_n dL_worst_0 rfl ?_
  refine rn_iconst (v := 0) dL_worst_1 rfl ?_
  refine rn_aload_n dL_worst_2 rfl ?_
  refine rn_iload_n dL_worst_3 rfl ?_
  refine rn_iload_n dL_worst_4 rfl ?_
  refine rn_callV dL_worst_5 cv_L_81 hc rfl h_SH rfl rfl h1 h2 rfl (Nat.le_of_ble_eq_true rfl) ?_
  refine rn_i2l dL_worst_8 rfl ?_
  refine rnE_ol hE dL_worst_9 ?_
  refine rn_goto (tgt := 21) dL_worst_10 rfl ?_
  refine rn_iconst (v := 0) dL_worst_21 rfl ?_
  exact rn_ret dL_worst_22 trivial rfl
set_option maxRecDepth 20000 in
theorem w_worst_x1 {a b : Int32} (hc : Cx l D ad tc L xs mX9_worst d' lo' [.ref 1, .int a, .int b] (wd S E, sl) 1) (h1 : d' + 1 ≤ 60) (h2 : 8 + (3 + 11) + lo' ≤ 3000) : Ch l D ad tc L xs mL_worst [(0, 10, 13, 21), (0, 10, 17, 15)] 60 3000 [.ref 1, .int a, .int b, .ref 92] (wd S E, sl) 1 (wd S (E ++ [j_x 1]), sl + 6) := by
  refine ch_of (lv0 := [(0, .ref 1), (1, .int a), (2, .int b), (3, .ref 92)]) (by decide +kernel) tb_worst rfl (fun _ => by simp [lg_sl, j_v, Value.category]) (fun _ => rfl) ?_
  refine rn_aload_n dL_worst_0 rfl ?_
  refine rn_iconst (v := 0) dL_worst_1 rfl ?_
  refine rn_aload_n dL_worst_2 rfl ?_
  refine rn_iload_n dL_worst_3 rfl ?_
  refine rn_iload_n dL_worst_4 rfl ?_
  refine rn_catchV (pre := []) (x := ⟨0, 10, 13, 21⟩) (suf := [⟨0, 10, 17, 15⟩]) (i := 4) (w := 2) dL_worst_5 cv_L_81 hc rfl h_SH rfl rfl h1 h2 rfl (Nat.le_of_ble_eq_true rfl) (by decide) (by rw [tb_worst]; rfl) (fun z hz => absurd hz List.not_mem_nil) (by decide) (by decide) wc_L_21 (Or.inl ⟨dL_worst_13, rfl⟩) (by decide) rfl ?_
  refine rn_h (h2 := (wd S (E ++ [j_x 1]), sl + 6)) (by unfold exh wd; rw [List.append_assoc]) ?_
  refine rn_iconst (v := 1) dL_worst_15 rfl ?_
  exact rn_ret dL_worst_16 trivial rfl
set_option maxRecDepth 20000 in
theorem w_worst_x2 {a b : Int32} (hc : Cx l D ad tc L xs mX9_worst d' lo' [.ref 1, .int a, .int b] (wd S E, sl) 2) (h1 : d' + 1 ≤ 60) (h2 : 8 + (3 + 11) + lo' ≤ 3000) : Ch l D ad tc L xs mL_worst [(0, 10, 13, 21), (0, 10, 17, 15)] 60 3000 [.ref 1, .int a, .int b, .ref 92] (wd S E, sl) 2 (wd S (E ++ [j_x 2]), sl + 6) := by
  refine ch_of (lv0 := [(0, .ref 1), (1, .int a), (2, .int b), (3, .ref 92)]) (by decide +kernel) tb_worst rfl (fun _ => by simp [lg_sl, j_v, Value.category]) (fun _ => rfl) ?_
  refine rn_aload_n dL_worst_0 rfl ?_
  refine rn_iconst (v := 0) dL_worst_1 rfl ?_
  refine rn_aload_n dL_worst_2 rfl ?_
  refine rn_iload_n dL_worst_3 rfl ?_
  refine rn_iload_n dL_worst_4 rfl ?_
  refine rn_catchV (pre := [⟨0, 10, 13, 21⟩]) (x := ⟨0, 10, 17, 15⟩) (suf := []) (i := 4) (w := 2) dL_worst_5 cv_L_81 hc rfl h_SH rfl rfl h1 h2 rfl (Nat.le_of_ble_eq_true rfl) (by decide) (by rw [tb_worst]; rfl) (fun z hz => by
      rw [List.mem_singleton] at hz
      subst hz
      exact ⟨by decide, 1, by decide, by decide, wc_L_21⟩) (by decide) (by decide) wc_L_15 (Or.inl ⟨dL_worst_17, rfl⟩) (by decide) rfl ?_
  refine rn_h (h2 := (wd S (E ++ [j_x 2]), sl + 6)) (by unfold exh wd; rw [List.append_assoc]) ?_
  refine rn_iconst (v := 2) dL_worst_19 rfl ?_
  exact rn_ret dL_worst_20 trivial rfl
theorem tb_wouldLeave : j_tab mL_wouldLeave.1 = [(0, 9, 12, 21), (0, 9, 16, 15)] := by decide +kernel
set_option maxRecDepth 20000 in
theorem w_wouldLeave_ok {a b : Int32} {v w : UInt64} (hE : E[8]? = some (od w)) (hc : Cn l D ad tc L xs mX9_wouldLeave d' lo' [.ref 1, .int a, .int b] (wd S E, sl) (some (.double v)) (wd S' E, sl')) (h1 : d' + 1 ≤ 60) (h2 : 8 + (3 + 11) + lo' ≤ 3000) : Ch l D ad tc L xs mL_wouldLeave [(0, 9, 12, 21), (0, 9, 16, 15)] 60 3000 [.ref 1, .int a, .int b, .ref 93] (wd S E, sl) 0 (wd S' (E.set 8 (od v)), sl') := by
  refine ch_of (lv0 := [(0, .ref 1), (1, .int a), (2, .int b), (3, .ref 93)]) (by decide +kernel) tb_wouldLeave rfl (fun _ => by simp [lg_sl, j_v, Value.category]) (fun _ => rfl) ?_
  refine rn_aload_n dL_wouldLeave_0 rfl ?_
  refine rn_iconst (v := 0) dL_wouldLeave_1 rfl ?_
  refine rn_aload_n dL_wouldLeave_2 rfl ?_
  refine rn_iload_n dL_wouldLeave_3 rfl ?_
  refine rn_iload_n dL_wouldLeave_4 rfl ?_
  refine rn_callV dL_wouldLeave_5 cv_L_88 hc rfl h_SH rfl rfl h1 h2 rfl (Nat.le_of_ble_eq_true rfl) ?_
  refine rnE_od hE dL_wouldLeave_8 ?_
  refine rn_goto (tgt := 20) dL_wouldLeave_9 rfl ?_
  refine rn_iconst (v := 0) dL_wouldLeave_20 rfl ?_
  exact rn_ret dL_wouldLeave_21 trivial rfl
set_option maxRecDepth 20000 in
theorem w_wouldLeave_x1 {a b : Int32} (hc : Cx l D ad tc L xs mX9_wouldLeave d' lo' [.ref 1, .int a, .int b] (wd S E, sl) 1) (h1 : d' + 1 ≤ 60) (h2 : 8 + (3 + 11) + lo' ≤ 3000) : Ch l D ad tc L xs mL_wouldLeave [(0, 9, 12, 21), (0, 9, 16, 15)] 60 3000 [.ref 1, .int a, .int b, .ref 93] (wd S E, sl) 1 (wd S (E ++ [j_x 1]), sl + 6) := by
  refine ch_of (lv0 := [(0, .ref 1), (1, .int a), (2, .int b), (3, .ref 93)]) (by decide +kernel) tb_wouldLeave rfl (fun _ => by simp [lg_sl, j_v, Value.category]) (fun _ => rfl) ?_
  refine rn_aload_n dL_wouldLeave_0 rfl ?_
  refine rn_iconst (v := 0) dL_wouldLeave_1 rfl ?_
  refine rn_aload_n dL_wouldLeave_2 rfl ?_
  refine rn_iload_n dL_wouldLeave_3 rfl ?_
  refine rn_iload_n dL_wouldLeave_4 rfl ?_
  refine rn_catchV (pre := []) (x := ⟨0, 9, 12, 21⟩) (suf := [⟨0, 9, 16, 15⟩]) (i := 4) (w := 2) dL_wouldLeave_5 cv_L_88 hc rfl h_SH rfl rfl h1 h2 rfl (Nat.le_of_ble_eq_true rfl) (by decide) (by rw [tb_wouldLeave]; rfl) (fun z hz => absurd hz List.not_mem_nil) (by decide) (by decide) wc_L_21 (Or.inl ⟨dL_wouldLeave_12, rfl⟩) (by decide) rfl ?_
  refine rn_h (h2 := (wd S (E ++ [j_x 1]), sl + 6)) (by unfold exh wd; rw [List.append_assoc]) ?_
  refine rn_iconst (v := 1) dL_wouldLeave_14 rfl ?_
  exact rn_ret dL_wouldLeave_15 trivial rfl
set_option maxRecDepth 20000 in
theorem w_wouldLeave_x2 {a b : Int32} (hc : Cx l D ad tc L xs mX9_wouldLeave d' lo' [.ref 1, .int a, .int b] (wd S E, sl) 2) (h1 : d' + 1 ≤ 60) (h2 : 8 + (3 + 11) + lo' ≤ 3000) : Ch l D ad tc L xs mL_wouldLeave [(0, 9, 12, 21), (0, 9, 16, 15)] 60 3000 [.ref 1, .int a, .int b, .ref 93] (wd S E, sl) 2 (wd S (E ++ [j_x 2]), sl + 6) := by
  refine ch_of (lv0 := [(0, .ref 1), (1, .int a), (2, .int b), (3, .ref 93)]) (by decide +kernel) tb_wouldLeave rfl (fun _ => by simp [lg_sl, j_v, Value.category]) (fun _ => rfl) ?_
  refine rn_aload_n dL_wouldLeave_0 rfl ?_
  refine rn_iconst (v := 0) dL_wouldLeave_1 rfl ?_
  refine rn_aload_n dL_wouldLeave_2 rfl ?_
  refine rn_iload_n dL_wouldLeave_3 rfl ?_
  refine rn_iload_n dL_wouldLeave_4 rfl ?_
  refine rn_catchV (pre := [⟨0, 9, 12, 21⟩]) (x := ⟨0, 9, 16, 15⟩) (suf := []) (i := 4) (w := 2) dL_wouldLeave_5 cv_L_88 hc rfl h_SH rfl rfl h1 h2 rfl (Nat.le_of_ble_eq_true rfl) (by decide) (by rw [tb_wouldLeave]; rfl) (fun z hz => by
      rw [List.mem_singleton] at hz
      subst hz
      exact ⟨by decide, 1, by decide, by decide, wc_L_21⟩) (by decide) (by decide) wc_L_15 (Or.inl ⟨dL_wouldLeave_16, rfl⟩) (by decide) rfl ?_
  refine rn_h (h2 := (wd S (E ++ [j_x 2]), sl + 6)) (by unfold exh wd; rw [List.append_assoc]) ?_
  refine rn_iconst (v := 2) dL_wouldLeave_18 rfl ?_
  exact rn_ret dL_wouldLeave_19 trivial rfl
end W1
