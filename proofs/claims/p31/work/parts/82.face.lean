/-! The face: what is asked, where it may be asked -/
theorem has_n {S : jS} {n i : Nat} (hN : sI S 1 6 = nI n) (hn : n ≤ 16) (hi : i < n) : bI (decide (0 ≤ nI i ∧ nI i < sI S 1 6)) = 1 := by
  rw [hN, decide_eq_true ⟨Int32.not_lt.mp (nI_pos (by omega)), nI_lt hi (by omega)⟩]
  rfl
theorem has_c {S : jS} {n i : Nat} (hN : sI S 1 5 = nI n) (hn : n ≤ 3) (hi : i < n) : bI (decide (0 ≤ nI i ∧ nI i < sI S 1 5)) = 1 := by
  rw [hN, decide_eq_true ⟨Int32.not_lt.mp (nI_pos (by omega)), nI_lt hi (by omega)⟩]
  rfl
theorem is_b {p : Bool} (h : p = true) : bI p = 1 := by rw [h]; rfl
section Q8
variable {l : Launch} {D : va_G} {ad : Nat → Nat} {tc : Nat → ClassId} {L : Nat} {xs : Nat → Int32} {S : jS} {E : List j_C} {sl x : Nat} {Q : QC}
set_option maxRecDepth 20000 in
theorem c_X9_mustExist {b : Int32} (hb : ¬ b = 0) : Cn l D ad tc L xs mX9_mustExist 0 0 [.int b] (wd S E, sl) none (wd S E, sl) := by
  refine cn_of (lv0 := [(0, .int b)]) (by decide +kernel) rfl (fun _ => by simp [lg_sl, j_v, Value.category]) (fun _ => rfl) ?_
  refine rn_iload_n dX9_mustExist_0 rfl ?_
  refine rn_if_ne (tgt := 15) dX9_mustExist_1 rfl (fun _ => ?_) (fun q1 => absurd q1 (by exact hb))
  exact rn_ret dX9_mustExist_15 trivial rfl
set_option maxRecDepth 20000 in
theorem c_X9_mustFit {b : Int32} (hb : ¬ b = 0) : Cn l D ad tc L xs mX9_mustFit 0 0 [.int b] (wd S E, sl) none (wd S E, sl) := by
  refine cn_of (lv0 := [(0, .int b)]) (by decide +kernel) rfl (fun _ => by simp [lg_sl, j_v, Value.category]) (fun _ => rfl) ?_
  refine rn_iload_n dX9_mustFit_0 rfl ?_
  refine rn_if_ne (tgt := 15) dX9_mustFit_1 rfl (fun _ => ?_) (fun q1 => absurd q1 (by exact hb))
  exact rn_ret dX9_mustFit_15 trivial rfl
set_option maxRecDepth 20000 in
theorem c_X9_mustBeOpen {b : Int32} (ho : sI S 0 2 = 0) (hb : ¬ b = 0) : Cn l D ad tc L xs mX9_mustBeOpen 0 0 [.ref 1, .int b] (wd S E, sl) none (wd S E, sl) := by
  refine cn_of (lv0 := [(0, .ref 1), (1, .int b)]) (by decide +kernel) rfl (fun _ => by simp [lg_sl, j_v, Value.category]) (fun _ => rfl) ?_
  refine rn_aload_n dX9_mustBeOpen_0 rfl ?_
  refine rn_getfield dX9_mustBeOpen_1 fo_X9_142 h_SH rfl ?_
  refine rn_topi ho ?_
  refine rn_if_ne (tgt := 11) dX9_mustBeOpen_4 rfl (fun q1 => absurd q1 (by decide)) (fun _ => ?_)
  refine rn_iload_n dX9_mustBeOpen_7 rfl ?_
  refine rn_if_ne (tgt := 22) dX9_mustBeOpen_8 rfl (fun _ => ?_) (fun q2 => absurd q2 (by exact hb))
  exact rn_ret dX9_mustBeOpen_22 trivial rfl
set_option maxRecDepth 20000 in
theorem c_X9_mustBePair {n s e : Nat} (hN : sI S 1 6 = nI n) (hn : n ≤ 16) (hs : s < n) (he : e < n) (h1 : stB S s = true) (h2 : enB S e = true) : Cn l D ad tc L xs mX9_mustBePair 1 21 [.ref 1, .int (nI s), .int (nI e)] (wd S E, sl) none (wd S E, sl) := by
  refine cn_of (lv0 := [(0, .ref 1), (1, .int (nI s)), (2, .int (nI e))]) (by decide +kernel) rfl (fun _ => by simp [lg_sl, j_v, Value.category]) (fun _ => rfl) ?_
  refine rn_aload_n dX9_mustBePair_0 rfl ?_
  refine rn_getfield dX9_mustBePair_1 fo_X9_12 h_SH rfl ?_
  refine rn_iload_n dX9_mustBePair_4 rfl ?_
  refine rn_callV dX9_mustBePair_5 cv_X9_85 c_X1_hasNode rfl h_chip rfl rfl (by decide) (by decide) rfl (Nat.le_of_ble_eq_true rfl) ?_
  refine rn_topi (has_n hN hn hs) ?_
  refine rn_if_eq (tgt := 26) dX9_mustBePair_8 rfl (fun q1 => absurd q1 (by decide)) (fun _ => ?_)
  refine rn_aload_n dX9_mustBePair_11 rfl ?_
  refine rn_getfield dX9_mustBePair_12 fo_X9_12 h_SH rfl ?_
  refine rn_iload_n dX9_mustBePair_15 rfl ?_
  refine rn_callV dX9_mustBePair_16 cv_X9_85 c_X1_hasNode rfl h_chip rfl rfl (by decide) (by decide) rfl (Nat.le_of_ble_eq_true rfl) ?_
  refine rn_topi (has_n hN hn he) ?_
  refine rn_if_eq (tgt := 26) dX9_mustBePair_19 rfl (fun q2 => absurd q2 (by decide)) (fun _ => ?_)
  refine rn_iconst (v := 1) dX9_mustBePair_22 rfl ?_
  refine rn_goto (tgt := 27) dX9_mustBePair_23 rfl ?_
  refine rn_callS dX9_mustBePair_27 cs_X9_51 (c_X9_mustExist (by decide)) rfl (by decide) (by decide) rfl (Nat.le_of_ble_eq_true rfl) ?_
  refine rn_aload_n dX9_mustBePair_30 rfl ?_
  refine rn_getfield dX9_mustBePair_31 fo_X9_12 h_SH rfl ?_
  refine rn_getfield dX9_mustBePair_34 fo_X9_88 h_chip rfl ?_
  refine rn_iload_n dX9_mustBePair_37 rfl ?_
  refine rn_aaload dX9_mustBePair_38 h_nodes rfl (vp_in_nI (by omega) (by decide)) (refs_at rfl (by omega) (by decide)) ?_
  refine rn_callV dX9_mustBePair_39 cv_X9_131 (c_X5_isStart (by omega)) rfl (h_node (by omega)) rfl rfl (by decide) (by decide) rfl (Nat.le_of_ble_eq_true rfl) ?_
  refine rn_topi (is_b h1) ?_
  refine rn_if_eq (tgt := 64) dX9_mustBePair_42 rfl (fun q3 => absurd q3 (by decide)) (fun _ => ?_)
  refine rn_aload_n dX9_mustBePair_45 rfl ?_
  refine rn_getfield dX9_mustBePair_46 fo_X9_12 h_SH rfl ?_
  refine rn_getfield dX9_mustBePair_49 fo_X9_88 h_chip rfl ?_
  refine rn_iload_n dX9_mustBePair_52 rfl ?_
  refine rn_aaload dX9_mustBePair_53 h_nodes rfl (vp_in_nI (by omega) (by decide)) (refs_at rfl (by omega) (by decide)) ?_
  refine rn_callV dX9_mustBePair_54 cv_X9_135 (c_X5_isEndKind (by omega)) rfl (h_node (by omega)) rfl rfl (by decide) (by decide) rfl (Nat.le_of_ble_eq_true rfl) ?_
  refine rn_topi (is_b h2) ?_
  refine rn_if_eq (tgt := 64) dX9_mustBePair_57 rfl (fun q4 => absurd q4 (by decide)) (fun _ => ?_)
  refine rn_iconst (v := 1) dX9_mustBePair_60 rfl ?_
  refine rn_goto (tgt := 65) dX9_mustBePair_61 rfl ?_
  refine rn_callS dX9_mustBePair_65 cs_X9_37 (c_X9_mustFit (by decide)) rfl (by decide) (by decide) rfl (Nat.le_of_ble_eq_true rfl) ?_
  exact rn_ret dX9_mustBePair_68 trivial rfl
set_option maxRecDepth 20000 in
theorem q_leftAt {e c : Nat} {b : Bool} (h : Inq Q S) (he : e < Q.n) (hk : enB Q.X e = true) (hc : c < Q.nc): ∃ S', Inq Q S' ∧ Cn l D ad tc L xs mX9_leftAt 5 130 [.ref 1, .int (nI e), .int (nI c), .int (bI b)] (wd S E, sl) (some (.double (dv ((Q.T (jOf c b)).2.2.1 e)))) (wd S' E, sl) := by
  have hN := h.1.1.1.1
  have hn := h.1.1.1.2
  have hC := h.1.1.2.2.1.1
  have hn3 := h.1.1.2.2.1.2.2
  have hen : enB S e = true := (enB_s (TZ_of (Inq_TS h)) (by omega)).trans hk
  obtain ⟨S', h1, a1, k1⟩ := q_timing (l := l) (D := D) (ad := ad) (tc := tc) (L := L) (xs := xs) (E := E) (sl := sl) (b := b) h (show c < 3 by omega)
  have hj := jOf_l (c := c) (b := b) (by omega)
  refine ⟨S', h1, ?_⟩
  refine cn_of (lv0 := [(0, .ref 1), (1, .int (nI e)), (2, .int (nI c)), (3, .int (bI b))]) (by decide +kernel) rfl (fun _ => by simp [lg_sl, j_v, Value.category]) (fun _ => rfl) ?_
  refine rn_aload_n dX9_leftAt_0 rfl ?_
  refine rn_getfield dX9_leftAt_1 fo_X9_12 h_SH rfl ?_
  refine rn_iload_n dX9_leftAt_4 rfl ?_
  refine rn_callV dX9_leftAt_5 cv_X9_85 c_X1_hasNode rfl h_chip rfl rfl (by decide) (by decide) rfl (Nat.le_of_ble_eq_true rfl) ?_
  refine rn_topi (has_n hN hn he) ?_
  refine rn_if_eq (tgt := 26) dX9_leftAt_8 rfl (fun q1 => absurd q1 (by decide)) (fun _ => ?_)
  refine rn_aload_n dX9_leftAt_11 rfl ?_
  refine rn_getfield dX9_leftAt_12 fo_X9_12 h_SH rfl ?_
  refine rn_iload_n dX9_leftAt_15 rfl ?_
  refine rn_callV dX9_leftAt_16 cv_X9_161 c_X1_hasCorner rfl h_chip rfl rfl (by decide) (by decide) rfl (Nat.le_of_ble_eq_true rfl) ?_
  refine rn_topi (has_c hC hn3 hc) ?_
  refine rn_if_eq (tgt := 26) dX9_leftAt_19 rfl (fun q2 => absurd q2 (by decide)) (fun _ => ?_)
  refine rn_iconst (v := 1) dX9_leftAt_22 rfl ?_
  refine rn_goto (tgt := 27) dX9_leftAt_23 rfl ?_
  refine rn_callS dX9_leftAt_27 cs_X9_51 (c_X9_mustExist (by decide)) rfl (by decide) (by decide) rfl (Nat.le_of_ble_eq_true rfl) ?_
  refine rn_aload_n dX9_leftAt_30 rfl ?_
  refine rn_getfield dX9_leftAt_31 fo_X9_12 h_SH rfl ?_
  refine rn_getfield dX9_leftAt_34 fo_X9_88 h_chip rfl ?_
  refine rn_iload_n dX9_leftAt_37 rfl ?_
  refine rn_aaload dX9_leftAt_38 h_nodes rfl (vp_in_nI (by omega) (by decide)) (refs_at rfl (by omega) (by decide)) ?_
  refine rn_callV dX9_leftAt_39 cv_X9_135 (c_X5_isEndKind (by omega)) rfl (h_node (by omega)) rfl rfl (by decide) (by decide) rfl (Nat.le_of_ble_eq_true rfl) ?_
  refine rn_topi (is_b hen) ?_
  refine rn_callS dX9_leftAt_42 cs_X9_37 (c_X9_mustFit (by decide)) rfl (by decide) (by decide) rfl (Nat.le_of_ble_eq_true rfl) ?_
  refine rn_aload_n dX9_leftAt_45 rfl ?_
  refine rn_getfield dX9_leftAt_46 fo_X9_21 h_SH rfl ?_
  refine rn_iload_n dX9_leftAt_49 rfl ?_
  refine rn_iload_n dX9_leftAt_50 rfl ?_
  refine rn_callV dX9_leftAt_51 cv_X9_164 k1 rfl h_an rfl rfl (by decide) (by decide) rfl (Nat.le_of_ble_eq_true rfl) ?_
  refine rn_iload_n dX9_leftAt_54 rfl ?_
  refine rn_callV dX9_leftAt_55 cv_X9_184 (c_X8_leastAt hj (by omega)) rfl (h_tim (by omega)) rfl rfl (by decide) (by decide) rfl (Nat.le_of_ble_eq_true rfl) ?_
  rw [q_M h1 a1 hj he hk]
  exact rn_ret dX9_leftAt_58 trivial rfl
set_option maxRecDepth 20000 in
theorem q_least9 {b : Bool} (h : Inq Q S): ∃ S', Inq Q S' ∧ Cn l D ad tc L xs mX9_least 6 154 [.ref 1, .int (bI b)] (wd S E, sl) (some (.double (dv (vLA Q b Q.nc)))) (wd S' E, sl) := by
  have hN := h.1.1.1.1
  have hn := h.1.1.1.2
  have hC := h.1.1.2.2.1.1
  have hn3 := h.1.1.2.2.1.2.2
  obtain ⟨S', h1, k1⟩ := q_leastOfAll (l := l) (D := D) (ad := ad) (tc := tc) (L := L) (xs := xs) (E := E) (sl := sl) (b := b) h
  refine ⟨S', h1, ?_⟩
  refine cn_of (lv0 := [(0, .ref 1), (1, .int (bI b))]) (by decide +kernel) rfl (fun _ => by simp [lg_sl, j_v, Value.category]) (fun _ => rfl) ?_
  refine rn_aload_n dX9_least_0 rfl ?_
  refine rn_getfield dX9_least_1 fo_X9_21 h_SH rfl ?_
  refine rn_iload_n dX9_least_4 rfl ?_
  refine rn_callV dX9_least_5 cv_X9_215 k1 rfl h_an rfl rfl (by decide) (by decide) rfl (Nat.le_of_ble_eq_true rfl) ?_
  exact rn_ret dX9_least_8 trivial rfl
set_option maxRecDepth 20000 in
theorem q_best (h : Inq Q S): ∃ S', Inq Q S' ∧ Cn l D ad tc L xs mX9_best 7 181 [.ref 1] (wd S E, sl) (some (.int (vBCo Q Q.n).2)) (wd S' E, sl) := by
  have hN := h.1.1.1.1
  have hn := h.1.1.1.2
  have hC := h.1.1.2.2.1.1
  have hn3 := h.1.1.2.2.1.2.2
  obtain ⟨S', h1, k1⟩ := q_bestChange (l := l) (D := D) (ad := ad) (tc := tc) (L := L) (xs := xs) (E := E) (sl := sl) h
  refine ⟨S', h1, ?_⟩
  refine cn_of (lv0 := [(0, .ref 1)]) (by decide +kernel) ⟨_, rfl, rfl⟩ (fun _ => by simp [lg_sl, j_v, Value.category]) (fun _ => rfl) ?_
  refine rn_aload_n dX9_best_0 rfl ?_
  refine rn_getfield dX9_best_1 fo_X9_21 h_SH rfl ?_
  refine rn_callV dX9_best_4 cv_X9_222 k1 rfl h_an rfl rfl (by decide) (by decide) rfl (Nat.le_of_ble_eq_true rfl) ?_
  exact rn_ret dX9_best_7 trivial rfl
end Q8
