/-! The face: ways; and the first asking -/
/-- the paths are made ready: what was told may be asked -/
theorem Inq_first {Q : QC} (hI : Inv Q.S Q.n Q.nr Q.nc Q.nk Q.w Q.kl Q.ke Q.p) (hf : sI Q.S 38 5 = 0) (hj : ∀ j, 1 ≤ j → j < 7 → sI Q.S (5 * j + 49) 8 = 0) : Inq Q (sPaths Q.S Q.n Q.nr) := by
  have t1 := TS_paths Q.S Q.n Q.nr
  have hn := hI.1.1.2
  have hA : (sPD Q.S Q.n Q.nr Q.w).2.1 = (sPaths Q.S Q.n Q.nr).2.1 := sDelays_A _ _ _ _
  have hP := PT_paths hI.1 hI.2.2.2.2.1
  have hk : ∀ a f, a ≠ 38 → sI (sPaths Q.S Q.n Q.nr) a f = sI Q.S a f := by
    intro a f ha
    rw [show sPaths Q.S Q.n Q.nr = pI (sChks (sPrep Q.S Q.n Q.n) Q.n Q.nr Q.n) 38 5 1 from if_pos hf]
    show up2 (sChks (sPrep Q.S Q.n Q.n) Q.n Q.nr Q.n).1 38 5 1 a f = _
    rw [up2_k _ _ ha, (sChks_c _ _ _ _).1, (sPrep_c _ _ _).1]
  have f2 : sF (sPaths Q.S Q.n Q.nr) 44 = sF Q.S 44 := by
    rw [show sPaths Q.S Q.n Q.nr = pI (sChks (sPrep Q.S Q.n Q.n) Q.n Q.nr Q.n) 38 5 1 from if_pos hf]
    show (sChks (sPrep Q.S Q.n Q.n) Q.n Q.nr Q.n).2.2.2.1 44 = _
    rw [(sChks_c _ _ _ _).2, (sPrep_c _ _ _).2]
  refine ⟨Inv_ts t1 hI (fun j h7 => Grid_c (fun a _ _ => sPaths_D _ _ _ _) (hI.2.2.2.1 j h7)) (Or.inr hP) ?_, t1, sPaths_f _ _ _, hA.symm, fun j h1 h7 => Or.inl ?_⟩
  · rw [hk 43 3 (by decide)]
    exact hI.2.2.2.2.2.1.imp id (fun q => DT_s t1 hn f2 (sPaths_D _ _ _ _) q)
  · rw [hk _ _ (by omega)]
    exact hj j h1 h7
section Q14
variable {l : Launch} {D : va_G} {ad : Nat → Nat} {tc : Nat → ClassId} {L : Nat} {xs : Nat → Int32} {S : jS} {E : List j_C} {sl x : Nat} {Q : QC}
set_option maxRecDepth 20000 in
theorem q_ways_0 {s e a : Nat} (h : Inq Q S) (hs : s < Q.n) (he : e < Q.n) (hks : stB Q.X s = true) (hke : enB Q.X e = true) (hf : fe1 Q.X e = -1) : Cn l D ad tc L xs mX9_ways 5 116 [.ref 1, .int (nI s), .int (nI e)] (wd S E, sl) (some (.int (0))) (wd S E, sl) := by
  refine cn_of (lv0 := [(0, .ref 1), (1, .int (nI s)), (2, .int (nI e))]) (by decide +kernel) ⟨_, rfl, rfl⟩ (fun _ => by simp [lg_sl, j_v, Value.category]) (fun _ => rfl) ?_
  have hN := h.1.1.1.1
  have hn := h.1.1.1.2
  have hst : stB S s = true := (stB_s (TZ_of (Inq_TS h)) (by omega)).trans hks
  have hen : enB S e = true := (enB_s (TZ_of (Inq_TS h)) (by omega)).trans hke
  have hfS := (fe1_s (TZ_of (Inq_TS h)) (show e < 16 by omega)).trans hf
  refine rn_aload_n dX9_ways_0 rfl ?_
  refine rn_iload_n dX9_ways_1 rfl ?_
  refine rn_iload_n dX9_ways_2 rfl ?_
  refine rn_callV dX9_ways_3 cv_X9_174 (c_X9_mustBePair hN hn hs he hst hen) rfl h_SH rfl rfl (by decide) (by decide) rfl (Nat.le_of_ble_eq_true rfl) ?_
  refine rn_aload_n dX9_ways_6 rfl ?_
  refine rn_getfield dX9_ways_7 fo_X9_12 h_SH rfl ?_
  refine rn_getfield dX9_ways_10 fo_X9_88 h_chip rfl ?_
  refine rn_iload_n dX9_ways_13 rfl ?_
  refine rn_aaload dX9_ways_14 h_nodes rfl (vp_in_nI (by omega) (by decide)) (refs_at rfl (by omega) (by decide)) ?_
  refine rn_getfield dX9_ways_15 fo_X9_101 (h_node (by omega)) rfl ?_
  refine rn_topi hfS ?_
  refine rn_istore_n dX9_ways_18 (by decide) rfl ?_
  refine rn_iload_n dX9_ways_19 rfl ?_
  refine rn_iconst (v := (-1)) dX9_ways_20 rfl ?_
  refine rn_icmp_ne (tgt := 28) dX9_ways_21 rfl (fun q1 => absurd q1 (by exact fun z => z rfl)) (fun _ => ?_)
  refine rn_iconst (v := 0) dX9_ways_24 rfl ?_
  refine rn_goto (tgt := 40) dX9_ways_25 rfl ?_
  exact rn_ret dX9_ways_40 trivial rfl
set_option maxRecDepth 20000 in
theorem q_ways_a {s e a : Nat} (h : Inq Q S) (hs : s < Q.n) (he : e < Q.n) (hks : stB Q.X s = true) (hke : enB Q.X e = true) (hf : fe1 Q.X e = nI a) (ha : a < Q.n) : Cn l D ad tc L xs mX9_ways 5 116 [.ref 1, .int (nI s), .int (nI e)] (wd S E, sl) (some (.int (sA Q.X 41 (s * 16 + a)))) (wd S E, sl) := by
  refine cn_of (lv0 := [(0, .ref 1), (1, .int (nI s)), (2, .int (nI e))]) (by decide +kernel) ⟨_, rfl, rfl⟩ (fun _ => by simp [lg_sl, j_v, Value.category]) (fun _ => rfl) ?_
  have hN := h.1.1.1.1
  have hn := h.1.1.1.2
  have hst : stB S s = true := (stB_s (TZ_of (Inq_TS h)) (by omega)).trans hks
  have hen : enB S e = true := (enB_s (TZ_of (Inq_TS h)) (by omega)).trans hke
  have hfS := (fe1_s (TZ_of (Inq_TS h)) (show e < 16 by omega)).trans hf
  refine rn_aload_n dX9_ways_0 rfl ?_
  refine rn_iload_n dX9_ways_1 rfl ?_
  refine rn_iload_n dX9_ways_2 rfl ?_
  refine rn_callV dX9_ways_3 cv_X9_174 (c_X9_mustBePair hN hn hs he hst hen) rfl h_SH rfl rfl (by decide) (by decide) rfl (Nat.le_of_ble_eq_true rfl) ?_
  refine rn_aload_n dX9_ways_6 rfl ?_
  refine rn_getfield dX9_ways_7 fo_X9_12 h_SH rfl ?_
  refine rn_getfield dX9_ways_10 fo_X9_88 h_chip rfl ?_
  refine rn_iload_n dX9_ways_13 rfl ?_
  refine rn_aaload dX9_ways_14 h_nodes rfl (vp_in_nI (by omega) (by decide)) (refs_at rfl (by omega) (by decide)) ?_
  refine rn_getfield dX9_ways_15 fo_X9_101 (h_node (by omega)) rfl ?_
  refine rn_topi hfS ?_
  refine rn_istore_n dX9_ways_18 (by decide) rfl ?_
  refine rn_iload_n dX9_ways_19 rfl ?_
  refine rn_iconst (v := (-1)) dX9_ways_20 rfl ?_
  refine rn_icmp_ne (tgt := 28) dX9_ways_21 rfl (fun _ => ?_) (fun q1 => absurd q1 (by exact nI_ne1 (by omega)))
  refine rn_aload_n dX9_ways_28 rfl ?_
  refine rn_getfield dX9_ways_29 fo_X9_21 h_SH rfl ?_
  refine rn_callV dX9_ways_32 cv_X9_192 (q_paths h) rfl h_an rfl rfl (by decide) (by decide) rfl (Nat.le_of_ble_eq_true rfl) ?_
  refine rn_iload_n dX9_ways_35 rfl ?_
  refine rn_iload_n dX9_ways_36 rfl ?_
  refine rn_callV dX9_ways_37 cv_X9_196 (c_X6_waysTo (by omega) (by omega)) rfl h_paths rfl rfl (by decide) (by decide) rfl (Nat.le_of_ble_eq_true rfl) ?_
  rw [show sA S 41 = sA Q.X 41 from congrFun h.2.2.2.1 41]
  exact rn_ret dX9_ways_40 trivial rfl
end Q14
