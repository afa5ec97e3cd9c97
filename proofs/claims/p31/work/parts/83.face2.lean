/-! The face, further -/
theorem q_A {Q : QC} {S : jS} {j s i f : Nat} (h : Inq Q S) (ha : Q.A (tOf S j) j) (hs : s < 16) (hi : i < Q.n) (hf : f ≤ 1) : mAr S (tOf S j).1 s i f = mAr Q.X (Q.T j).1 s i f := by
  unfold mAr
  rw [show sA S 39 = sA Q.X 39 from congrFun h.2.2.2.1 39]
  by_cases hb : bitR (sA Q.X 39) s i = true
  · rw [if_pos hb, if_pos hb]
    exact ha.1 s i f hs hi hf hb
  · rw [if_neg hb, if_neg hb]
theorem q_Z {Q : QC} {S : jS} {j s e : Nat} (h : Inq Q S) (ha : Q.A (tOf S j) j) (hs : s < Q.n) (he : e < Q.n) (hk : enB Q.X e = true) : mLo S e (tOf S j).2.1 s = mLo Q.X e (Q.T j).2.1 s := by
  have hkk : kd Q.X e = 6 ∨ kd Q.X e = 7 ∨ kd Q.X e = 8 := of_decide_eq_true hk
  rw [mLo_s (Inq_TA h)]
  exact mLo_c (ha.2.1 e he hkk).1 hs
theorem q_W {Q : QC} {S : jS} {j e : Nat} (h : Inq Q S) (ha : Q.A (tOf S j) j) (he : e < Q.n) (hk : enB Q.X e = true) : mWw S e Q.n (tOf S j).2.1 = mWw Q.X e Q.n (Q.T j).2.1 := by
  have hkk : kd Q.X e = 6 ∨ kd Q.X e = 7 ∨ kd Q.X e = 8 := of_decide_eq_true hk
  have hn := h.1.1.1.2
  unfold mWw
  rw [mWs_s h.2.2.2.1, fe1_s (TZ_of (Inq_TS h)) (by omega), mWs_c hn (ha.2.1 e he hkk).1 Q.n (Nat.le_refl _)]
section Q9
variable {l : Launch} {D : va_G} {ad : Nat → Nat} {tc : Nat → ClassId} {L : Nat} {xs : Nat → Int32} {S : jS} {E : List j_C} {sl x : Nat} {Q : QC}
set_option maxRecDepth 20000 in
theorem q_load {i : Nat} (h : Inq Q S) (hi : i < Q.n): ∃ S', Inq Q S' ∧ Cn l D ad tc L xs mX9_load 5 108 [.ref 1, .int (nI i)] (wd S E, sl) (some (.double (dv (1024 * (qLd Q.X Q.w Q.n i : Nat))))) (wd S' E, sl) := by
  have hN := h.1.1.1.1
  have hn := h.1.1.1.2
  have hC := h.1.1.2.2.1.1
  have hn3 := h.1.1.2.2.1.2.2
  have hqr := qLd_r (Told_z (Inq_X h).1) (fun i hi => (h.1.2.1 i hi).1) Q.n hn i (by omega)
  obtain ⟨S', h1, d1, k1⟩ := q_delays (l := l) (D := D) (ad := ad) (tc := tc) (L := L) (xs := xs) (E := E) (sl := sl) h
  have LQ : sF S' (43 + 1) i = fv (qLd Q.X Q.w Q.n i) := by rw [← qLd_s (Inq_TS h1) Q.n hn]; exact (d1 i hi).1
  refine ⟨S', h1, ?_⟩
  refine cn_of (lv0 := [(0, .ref 1), (1, .int (nI i))]) (by decide +kernel) rfl (fun _ => by simp [lg_sl, j_v, Value.category]) (fun _ => rfl) ?_
  refine rn_aload_n dX9_load_0 rfl ?_
  refine rn_getfield dX9_load_1 fo_X9_12 h_SH rfl ?_
  refine rn_iload_n dX9_load_4 rfl ?_
  refine rn_callV dX9_load_5 cv_X9_85 c_X1_hasNode rfl h_chip rfl rfl (by decide) (by decide) rfl (Nat.le_of_ble_eq_true rfl) ?_
  refine rn_topi (has_n hN hn hi) ?_
  refine rn_callS dX9_load_8 cs_X9_51 (c_X9_mustExist (by decide)) rfl (by decide) (by decide) rfl (Nat.le_of_ble_eq_true rfl) ?_
  refine rn_aload_n dX9_load_11 rfl ?_
  refine rn_getfield dX9_load_12 fo_X9_21 h_SH rfl ?_
  refine rn_callV dX9_load_15 cv_X9_115 k1 rfl h_an rfl rfl (by decide) (by decide) rfl (Nat.le_of_ble_eq_true rfl) ?_
  refine rn_getfield dX9_load_18 fo_X9_119 (h_del (Or.inl rfl)) rfl ?_
  refine rn_iload_n dX9_load_21 rfl ?_
  refine rn_faload dX9_load_22 (h_loads (Or.inl rfl)) rfl (vp_in_nI (by omega) (by decide)) ?_
  rw [nI_clamp (by omega)]
  rw [LQ]
  refine rn_f2d dX9_load_23 (by rw [f2d_dv (by unfold fB; omega)]; exact dv_n _) ?_
  refine rn_topd (y := dv (1024 * (qLd Q.X Q.w Q.n i : Nat))) (by rw [f2d_dv (by unfold fB; omega), Int.mul_comm]) ?_
  exact rn_ret dX9_load_24 trivial rfl
set_option maxRecDepth 20000 in
theorem q_takes_r {i : Nat} (h : Inq Q S) (hi : i < Q.n): ∃ S', Inq Q S' ∧ Cn l D ad tc L xs mX9_takes 5 108 [.ref 1, .int (nI i), .int 1] (wd S E, sl) (some (.double (dv (dE (Q.p i) 0)))) (wd S' E, sl) := by
  have hN := h.1.1.1.1
  have hn := h.1.1.1.2
  have hC := h.1.1.2.2.1.1
  have hn3 := h.1.1.2.2.1.2.2
  have hpr := p_r h.1.1 h.1.2.1 h.1.2.2.2.2.2.2 i hi
  obtain ⟨S', h1, d1, k1⟩ := q_delays (l := l) (D := D) (ad := ad) (tc := tc) (L := L) (xs := xs) (E := E) (sl := sl) h
  refine ⟨S', h1, ?_⟩
  refine cn_of (lv0 := [(0, .ref 1), (1, .int (nI i)), (2, .int 1)]) (by decide +kernel) rfl (fun _ => by simp [lg_sl, j_v, Value.category]) (fun _ => rfl) ?_
  refine rn_aload_n dX9_takes_0 rfl ?_
  refine rn_getfield dX9_takes_1 fo_X9_12 h_SH rfl ?_
  refine rn_iload_n dX9_takes_4 rfl ?_
  refine rn_callV dX9_takes_5 cv_X9_85 c_X1_hasNode rfl h_chip rfl rfl (by decide) (by decide) rfl (Nat.le_of_ble_eq_true rfl) ?_
  refine rn_topi (has_n hN hn hi) ?_
  refine rn_callS dX9_takes_8 cs_X9_51 (c_X9_mustExist (by decide)) rfl (by decide) (by decide) rfl (Nat.le_of_ble_eq_true rfl) ?_
  refine rn_aload_n dX9_takes_11 rfl ?_
  refine rn_getfield dX9_takes_12 fo_X9_21 h_SH rfl ?_
  refine rn_callV dX9_takes_15 cv_X9_115 k1 rfl h_an rfl rfl (by decide) (by decide) rfl (Nat.le_of_ble_eq_true rfl) ?_
  refine rn_iload_n dX9_takes_18 rfl ?_
  refine rn_iload_n dX9_takes_19 rfl ?_
  refine rn_if_eq (tgt := 27) dX9_takes_20 rfl (fun q1 => absurd q1 (by decide)) (fun _ => ?_)
  refine rn_iconst (v := nI 0) dX9_takes_23 (by decide) ?_
  refine rn_goto (tgt := 28) dX9_takes_24 rfl ?_
  refine rn_callV dX9_takes_28 cv_X9_157 (c_X4_ofEdge (x := 43) (Or.inl rfl) (by omega) (by decide) (d1 i hi).2 hpr.1 hpr.2) rfl (h_del (Or.inl rfl)) rfl rfl (by decide) (by decide) rfl (Nat.le_of_ble_eq_true rfl) ?_
  exact rn_ret dX9_takes_31 trivial rfl
set_option maxRecDepth 20000 in
theorem q_arrival_r {s i c : Nat} {b : Bool} (h : Inq Q S) (hs : s < Q.n) (hi : i < Q.n) (hc : c < Q.nc) (hk : stB Q.X s = true): ∃ S', Inq Q S' ∧ Cn l D ad tc L xs mX9_arrival 5 130 [.ref 1, .int (nI s), .int (nI i), .int (nI c), .int (bI b), .int 1] (wd S E, sl) (some (.double (dv (mAr Q.X (Q.T (jOf c b)).1 s i 0)))) (wd S' E, sl) := by
  have hN := h.1.1.1.1
  have hn := h.1.1.1.2
  have hC := h.1.1.2.2.1.1
  have hn3 := h.1.1.2.2.1.2.2
  have hst : stB S s = true := (stB_s (TZ_of (Inq_TS h)) (by omega)).trans hk
  obtain ⟨S', h1, a1, k1⟩ := q_timing (l := l) (D := D) (ad := ad) (tc := tc) (L := L) (xs := xs) (E := E) (sl := sl) (b := b) h (show c < 3 by omega)
  have hj := jOf_l (c := c) (b := b) (by omega)
  refine ⟨S', h1, ?_⟩
  refine cn_of (lv0 := [(0, .ref 1), (1, .int (nI s)), (2, .int (nI i)), (3, .int (nI c)), (4, .int (bI b)), (5, .int 1)]) (by decide +kernel) rfl (fun _ => by simp [lg_sl, j_v, Value.category]) (fun _ => rfl) ?_
  refine rn_aload_n dX9_arrival_0 rfl ?_
  refine rn_getfield dX9_arrival_1 fo_X9_12 h_SH rfl ?_
  refine rn_iload_n dX9_arrival_4 rfl ?_
  refine rn_callV dX9_arrival_5 cv_X9_85 c_X1_hasNode rfl h_chip rfl rfl (by decide) (by decide) rfl (Nat.le_of_ble_eq_true rfl) ?_
  refine rn_topi (has_n hN hn hs) ?_
  refine rn_if_eq (tgt := 37) dX9_arrival_8 rfl (fun q1 => absurd q1 (by decide)) (fun _ => ?_)
  refine rn_aload_n dX9_arrival_11 rfl ?_
  refine rn_getfield dX9_arrival_12 fo_X9_12 h_SH rfl ?_
  refine rn_iload_n dX9_arrival_15 rfl ?_
  refine rn_callV dX9_arrival_16 cv_X9_85 c_X1_hasNode rfl h_chip rfl rfl (by decide) (by decide) rfl (Nat.le_of_ble_eq_true rfl) ?_
  refine rn_topi (has_n hN hn hi) ?_
  refine rn_if_eq (tgt := 37) dX9_arrival_19 rfl (fun q2 => absurd q2 (by decide)) (fun _ => ?_)
  refine rn_aload_n dX9_arrival_22 rfl ?_
  refine rn_getfield dX9_arrival_23 fo_X9_12 h_SH rfl ?_
  refine rn_iload_n dX9_arrival_26 rfl ?_
  refine rn_callV dX9_arrival_27 cv_X9_161 c_X1_hasCorner rfl h_chip rfl rfl (by decide) (by decide) rfl (Nat.le_of_ble_eq_true rfl) ?_
  refine rn_topi (has_c hC hn3 hc) ?_
  refine rn_if_eq (tgt := 37) dX9_arrival_30 rfl (fun q3 => absurd q3 (by decide)) (fun _ => ?_)
  refine rn_iconst (v := 1) dX9_arrival_33 rfl ?_
  refine rn_goto (tgt := 38) dX9_arrival_34 rfl ?_
  refine rn_callS dX9_arrival_38 cs_X9_51 (c_X9_mustExist (by decide)) rfl (by decide) (by decide) rfl (Nat.le_of_ble_eq_true rfl) ?_
  refine rn_aload_n dX9_arrival_41 rfl ?_
  refine rn_getfield dX9_arrival_42 fo_X9_12 h_SH rfl ?_
  refine rn_getfield dX9_arrival_45 fo_X9_88 h_chip rfl ?_
  refine rn_iload_n dX9_arrival_48 rfl ?_
  refine rn_aaload dX9_arrival_49 h_nodes rfl (vp_in_nI (by omega) (by decide)) (refs_at rfl (by omega) (by decide)) ?_
  refine rn_callV dX9_arrival_50 cv_X9_131 (c_X5_isStart (by omega)) rfl (h_node (by omega)) rfl rfl (by decide) (by decide) rfl (Nat.le_of_ble_eq_true rfl) ?_
  refine rn_topi (is_b hst) ?_
  refine rn_callS dX9_arrival_53 cs_X9_37 (c_X9_mustFit (by decide)) rfl (by decide) (by decide) rfl (Nat.le_of_ble_eq_true rfl) ?_
  refine rn_aload_n dX9_arrival_56 rfl ?_
  refine rn_getfield dX9_arrival_57 fo_X9_21 h_SH rfl ?_
  refine rn_iload_n dX9_arrival_60 rfl ?_
  refine rn_iload dX9_arrival_61 rfl ?_
  refine rn_callV dX9_arrival_63 cv_X9_164 k1 rfl h_an rfl rfl (by decide) (by decide) rfl (Nat.le_of_ble_eq_true rfl) ?_
  refine rn_iload_n dX9_arrival_66 rfl ?_
  refine rn_iload_n dX9_arrival_67 rfl ?_
  refine rn_iload dX9_arrival_68 rfl ?_
  refine rn_if_eq (tgt := 77) dX9_arrival_70 rfl (fun q4 => absurd q4 (by decide)) (fun _ => ?_)
  refine rn_iconst (v := nI 0) dX9_arrival_73 (by decide) ?_
  refine rn_goto (tgt := 78) dX9_arrival_74 rfl ?_
  refine rn_callV dX9_arrival_78 cv_X9_168 (c_X8_arrivalOf (p := (tOf S' (jOf c b)).1 (s * 32 + i * 2 + 0)) hj (by omega) (by omega) (by decide) (fun _ => congrFun (h1.1.2.2.2.1 _ hj).1.1 _)) rfl (h_tim (by omega)) rfl rfl (by decide) (by decide) rfl (Nat.le_of_ble_eq_true rfl) ?_
  refine rn_topd (y := dv (mAr Q.X (Q.T (jOf c b)).1 s i 0)) (by rw [← q_A h1 a1 (by omega) hi (by decide)]; rfl) ?_
  exact rn_ret dX9_arrival_81 trivial rfl
set_option maxRecDepth 20000 in
theorem q_takes_f {i : Nat} (h : Inq Q S) (hi : i < Q.n): ∃ S', Inq Q S' ∧ Cn l D ad tc L xs mX9_takes 5 108 [.ref 1, .int (nI i), .int 0] (wd S E, sl) (some (.double (dv (dE (Q.p i) 1)))) (wd S' E, sl) := by
  have hN := h.1.1.1.1
  have hn := h.1.1.1.2
  have hC := h.1.1.2.2.1.1
  have hn3 := h.1.1.2.2.1.2.2
  have hpr := p_r h.1.1 h.1.2.1 h.1.2.2.2.2.2.2 i hi
  obtain ⟨S', h1, d1, k1⟩ := q_delays (l := l) (D := D) (ad := ad) (tc := tc) (L := L) (xs := xs) (E := E) (sl := sl) h
  refine ⟨S', h1, ?_⟩
  refine cn_of (lv0 := [(0, .ref 1), (1, .int (nI i)), (2, .int 0)]) (by decide +kernel) rfl (fun _ => by simp [lg_sl, j_v, Value.category]) (fun _ => rfl) ?_
  refine rn_aload_n dX9_takes_0 rfl ?_
  refine rn_getfield dX9_takes_1 fo_X9_12 h_SH rfl ?_
  refine rn_iload_n dX9_takes_4 rfl ?_
  refine rn_callV dX9_takes_5 cv_X9_85 c_X1_hasNode rfl h_chip rfl rfl (by decide) (by decide) rfl (Nat.le_of_ble_eq_true rfl) ?_
  refine rn_topi (has_n hN hn hi) ?_
  refine rn_callS dX9_takes_8 cs_X9_51 (c_X9_mustExist (by decide)) rfl (by decide) (by decide) rfl (Nat.le_of_ble_eq_true rfl) ?_
  refine rn_aload_n dX9_takes_11 rfl ?_
  refine rn_getfield dX9_takes_12 fo_X9_21 h_SH rfl ?_
  refine rn_callV dX9_takes_15 cv_X9_115 k1 rfl h_an rfl rfl (by decide) (by decide) rfl (Nat.le_of_ble_eq_true rfl) ?_
  refine rn_iload_n dX9_takes_18 rfl ?_
  refine rn_iload_n dX9_takes_19 rfl ?_
  refine rn_if_eq (tgt := 27) dX9_takes_20 rfl (fun _ => ?_) (fun q1 => absurd (by rfl) q1)
  refine rn_iconst (v := nI 1) dX9_takes_27 (by decide) ?_
  refine rn_callV dX9_takes_28 cv_X9_157 (c_X4_ofEdge (x := 43) (Or.inl rfl) (by omega) (by decide) (d1 i hi).2 hpr.1 hpr.2) rfl (h_del (Or.inl rfl)) rfl rfl (by decide) (by decide) rfl (Nat.le_of_ble_eq_true rfl) ?_
  exact rn_ret dX9_takes_31 trivial rfl
set_option maxRecDepth 20000 in
theorem q_arrival_f {s i c : Nat} {b : Bool} (h : Inq Q S) (hs : s < Q.n) (hi : i < Q.n) (hc : c < Q.nc) (hk : stB Q.X s = true): ∃ S', Inq Q S' ∧ Cn l D ad tc L xs mX9_arrival 5 130 [.ref 1, .int (nI s), .int (nI i), .int (nI c), .int (bI b), .int 0] (wd S E, sl) (some (.double (dv (mAr Q.X (Q.T (jOf c b)).1 s i 1)))) (wd S' E, sl) := by
  have hN := h.1.1.1.1
  have hn := h.1.1.1.2
  have hC := h.1.1.2.2.1.1
  have hn3 := h.1.1.2.2.1.2.2
  have hst : stB S s = true := (stB_s (TZ_of (Inq_TS h)) (by omega)).trans hk
  obtain ⟨S', h1, a1, k1⟩ := q_timing (l := l) (D := D) (ad := ad) (tc := tc) (L := L) (xs := xs) (E := E) (sl := sl) (b := b) h (show c < 3 by omega)
  have hj := jOf_l (c := c) (b := b) (by omega)
  refine ⟨S', h1, ?_⟩
  refine cn_of (lv0 := [(0, .ref 1), (1, .int (nI s)), (2, .int (nI i)), (3, .int (nI c)), (4, .int (bI b)), (5, .int 0)]) (by decide +kernel) rfl (fun _ => by simp [lg_sl, j_v, Value.category]) (fun _ => rfl) ?_
  refine rn_aload_n dX9_arrival_0 rfl ?_
  refine rn_getfield dX9_arrival_1 fo_X9_12 h_SH rfl ?_
  refine rn_iload_n dX9_arrival_4 rfl ?_
  refine rn_callV dX9_arrival_5 cv_X9_85 c_X1_hasNode rfl h_chip rfl rfl (by decide) (by decide) rfl (Nat.le_of_ble_eq_true rfl) ?_
  refine rn_topi (has_n hN hn hs) ?_
  refine rn_if_eq (tgt := 37) dX9_arrival_8 rfl (fun q1 => absurd q1 (by decide)) (fun _ => ?_)
  refine rn_aload_n dX9_arrival_11 rfl ?_
  refine rn_getfield dX9_arrival_12 fo_X9_12 h_SH rfl ?_
  refine rn_iload_n dX9_arrival_15 rfl ?_
  refine rn_callV dX9_arrival_16 cv_X9_85 c_X1_hasNode rfl h_chip rfl rfl (by decide) (by decide) rfl (Nat.le_of_ble_eq_true rfl) ?_
  refine rn_topi (has_n hN hn hi) ?_
  refine rn_if_eq (tgt := 37) dX9_arrival_19 rfl (fun q2 => absurd q2 (by decide)) (fun _ => ?_)
  refine rn_aload_n dX9_arrival_22 rfl ?_
  refine rn_getfield dX9_arrival_23 fo_X9_12 h_SH rfl ?_
  refine rn_iload_n dX9_arrival_26 rfl ?_
  refine rn_callV dX9_arrival_27 cv_X9_161 c_X1_hasCorner rfl h_chip rfl rfl (by decide) (by decide) rfl (Nat.le_of_ble_eq_true rfl) ?_
  refine rn_topi (has_c hC hn3 hc) ?_
  refine rn_if_eq (tgt := 37) dX9_arrival_30 rfl (fun q3 => absurd q3 (by decide)) (fun _ => ?_)
  refine rn_iconst (v := 1) dX9_arrival_33 rfl ?_
  refine rn_goto (tgt := 38) dX9_arrival_34 rfl ?_
  refine rn_callS dX9_arrival_38 cs_X9_51 (c_X9_mustExist (by decide)) rfl (by decide) (by decide) rfl (Nat.le_of_ble_eq_true rfl) ?_
  refine rn_aload_n dX9_arrival_41 rfl ?_
  refine rn_getfield dX9_arrival_42 fo_X9_12 h_SH rfl ?_
  refine rn_getfield dX9_arrival_45 fo_X9_88 h_chip rfl ?_
  refine rn_iload_n dX9_arrival_48 rfl ?_
  refine rn_aaload dX9_arrival_49 h_nodes rfl (vp_in_nI (by omega) (by decide)) (refs_at rfl (by omega) (by decide)) ?_
  refine rn_callV dX9_arrival_50 cv_X9_131 (c_X5_isStart (by omega)) rfl (h_node (by omega)) rfl rfl (by decide) (by decide) rfl (Nat.le_of_ble_eq_true rfl) ?_
  refine rn_topi (is_b hst) ?_
  refine rn_callS dX9_arrival_53 cs_X9_37 (c_X9_mustFit (by decide)) rfl (by decide) (by decide) rfl (Nat.le_of_ble_eq_true rfl) ?_
  refine rn_aload_n dX9_arrival_56 rfl ?_
  refine rn_getfield dX9_arrival_57 fo_X9_21 h_SH rfl ?_
  refine rn_iload_n dX9_arrival_60 rfl ?_
  refine rn_iload dX9_arrival_61 rfl ?_
  refine rn_callV dX9_arrival_63 cv_X9_164 k1 rfl h_an rfl rfl (by decide) (by decide) rfl (Nat.le_of_ble_eq_true rfl) ?_
  refine rn_iload_n dX9_arrival_66 rfl ?_
  refine rn_iload_n dX9_arrival_67 rfl ?_
  refine rn_iload dX9_arrival_68 rfl ?_
  refine rn_if_eq (tgt := 77) dX9_arrival_70 rfl (fun _ => ?_) (fun q4 => absurd (by rfl) q4)
  refine rn_iconst (v := nI 1) dX9_arrival_77 (by decide) ?_
  refine rn_callV dX9_arrival_78 cv_X9_168 (c_X8_arrivalOf (p := (tOf S' (jOf c b)).1 (s * 32 + i * 2 + 1)) hj (by omega) (by omega) (by decide) (fun _ => congrFun (h1.1.2.2.2.1 _ hj).1.1 _)) rfl (h_tim (by omega)) rfl rfl (by decide) (by decide) rfl (Nat.le_of_ble_eq_true rfl) ?_
  refine rn_topd (y := dv (mAr Q.X (Q.T (jOf c b)).1 s i 1)) (by rw [← q_A h1 a1 (by omega) hi (by decide)]; rfl) ?_
  exact rn_ret dX9_arrival_81 trivial rfl
set_option maxRecDepth 20000 in
theorem q_left {s e c : Nat} {b : Bool} (h : Inq Q S) (hs : s < Q.n) (he : e < Q.n) (hc : c < Q.nc) (hks : stB Q.X s = true) (hke : enB Q.X e = true): ∃ S', Inq Q S' ∧ Cn l D ad tc L xs mX9_left 5 130 [.ref 1, .int (nI s), .int (nI e), .int (nI c), .int (bI b)] (wd S E, sl) (some (.double (dv (mLo Q.X e (Q.T (jOf c b)).2.1 s)))) (wd S' E, sl) := by
  have hN := h.1.1.1.1
  have hn := h.1.1.1.2
  have hC := h.1.1.2.2.1.1
  have hn3 := h.1.1.2.2.1.2.2
  have hst : stB S s = true := (stB_s (TZ_of (Inq_TS h)) (by omega)).trans hks
  have hen : enB S e = true := (enB_s (TZ_of (Inq_TS h)) (by omega)).trans hke
  obtain ⟨S', h1, a1, k1⟩ := q_timing (l := l) (D := D) (ad := ad) (tc := tc) (L := L) (xs := xs) (E := E) (sl := sl) (b := b) h (show c < 3 by omega)
  have hj := jOf_l (c := c) (b := b) (by omega)
  refine ⟨S', h1, ?_⟩
  refine cn_of (lv0 := [(0, .ref 1), (1, .int (nI s)), (2, .int (nI e)), (3, .int (nI c)), (4, .int (bI b))]) (by decide +kernel) rfl (fun _ => by simp [lg_sl, j_v, Value.category]) (fun _ => rfl) ?_
  refine rn_aload_n dX9_left_0 rfl ?_
  refine rn_getfield dX9_left_1 fo_X9_12 h_SH rfl ?_
  refine rn_iload_n dX9_left_4 rfl ?_
  refine rn_callV dX9_left_5 cv_X9_161 c_X1_hasCorner rfl h_chip rfl rfl (by decide) (by decide) rfl (Nat.le_of_ble_eq_true rfl) ?_
  refine rn_topi (has_c hC hn3 hc) ?_
  refine rn_callS dX9_left_8 cs_X9_51 (c_X9_mustExist (by decide)) rfl (by decide) (by decide) rfl (Nat.le_of_ble_eq_true rfl) ?_
  refine rn_aload_n dX9_left_11 rfl ?_
  refine rn_iload_n dX9_left_12 rfl ?_
  refine rn_iload_n dX9_left_13 rfl ?_
  refine rn_callV dX9_left_14 cv_X9_174 (c_X9_mustBePair hN hn hs he hst hen) rfl h_SH rfl rfl (by decide) (by decide) rfl (Nat.le_of_ble_eq_true rfl) ?_
  refine rn_aload_n dX9_left_17 rfl ?_
  refine rn_getfield dX9_left_18 fo_X9_21 h_SH rfl ?_
  refine rn_iload_n dX9_left_21 rfl ?_
  refine rn_iload dX9_left_22 rfl ?_
  refine rn_callV dX9_left_24 cv_X9_164 k1 rfl h_an rfl rfl (by decide) (by decide) rfl (Nat.le_of_ble_eq_true rfl) ?_
  refine rn_iload_n dX9_left_27 rfl ?_
  refine rn_iload_n dX9_left_28 rfl ?_
  refine rn_callV dX9_left_29 cv_X9_181 (c_X8_leftOf (p := (tOf S' (jOf c b)).2.1 (s * 16 + e)) hj (by omega) (by omega) (fun _ => congrFun (h1.1.2.2.2.1 _ hj).1.2.1 _)) rfl (h_tim (by omega)) rfl rfl (by decide) (by decide) rfl (Nat.le_of_ble_eq_true rfl) ?_
  refine rn_topd (y := dv (mLo Q.X e (Q.T (jOf c b)).2.1 s)) (by rw [← q_Z h1 a1 hs he hke]; rfl) ?_
  exact rn_ret dX9_left_32 trivial rfl
set_option maxRecDepth 20000 in
theorem q_borrow {i c : Nat} (h : Inq Q S) (hi : i < Q.n) (hc : c < Q.nc) (hk : kd Q.X i = 7): ∃ S', Inq Q S' ∧ Cn l D ad tc L xs mX9_borrow 5 130 [.ref 1, .int (nI i), .int (nI c)] (wd S E, sl) (some (.double (dv ((Q.T (jOf c true)).2.2.2 i)))) (wd S' E, sl) := by
  have hN := h.1.1.1.1
  have hn := h.1.1.1.2
  have hC := h.1.1.2.2.1.1
  have hn3 := h.1.1.2.2.1.2.2
  have hkS : sI S (i + 13) 0 = 7 := (kd_s (TZ_of (Inq_TS h)) (by omega)).trans hk
  obtain ⟨S', h1, a1, k1⟩ := q_timing (l := l) (D := D) (ad := ad) (tc := tc) (L := L) (xs := xs) (E := E) (sl := sl) (b := true) h (show c < 3 by omega)
  have hj := jOf_l (c := c) (b := true) (by omega)
  refine ⟨S', h1, ?_⟩
  refine cn_of (lv0 := [(0, .ref 1), (1, .int (nI i)), (2, .int (nI c))]) (by decide +kernel) rfl (fun _ => by simp [lg_sl, j_v, Value.category]) (fun _ => rfl) ?_
  refine rn_aload_n dX9_borrow_0 rfl ?_
  refine rn_getfield dX9_borrow_1 fo_X9_12 h_SH rfl ?_
  refine rn_iload_n dX9_borrow_4 rfl ?_
  refine rn_callV dX9_borrow_5 cv_X9_85 c_X1_hasNode rfl h_chip rfl rfl (by decide) (by decide) rfl (Nat.le_of_ble_eq_true rfl) ?_
  refine rn_topi (has_n hN hn hi) ?_
  refine rn_if_eq (tgt := 26) dX9_borrow_8 rfl (fun q1 => absurd q1 (by decide)) (fun _ => ?_)
  refine rn_aload_n dX9_borrow_11 rfl ?_
  refine rn_getfield dX9_borrow_12 fo_X9_12 h_SH rfl ?_
  refine rn_iload_n dX9_borrow_15 rfl ?_
  refine rn_callV dX9_borrow_16 cv_X9_161 c_X1_hasCorner rfl h_chip rfl rfl (by decide) (by decide) rfl (Nat.le_of_ble_eq_true rfl) ?_
  refine rn_topi (has_c hC hn3 hc) ?_
  refine rn_if_eq (tgt := 26) dX9_borrow_19 rfl (fun q2 => absurd q2 (by decide)) (fun _ => ?_)
  refine rn_iconst (v := 1) dX9_borrow_22 rfl ?_
  refine rn_goto (tgt := 27) dX9_borrow_23 rfl ?_
  refine rn_callS dX9_borrow_27 cs_X9_51 (c_X9_mustExist (by decide)) rfl (by decide) (by decide) rfl (Nat.le_of_ble_eq_true rfl) ?_
  refine rn_aload_n dX9_borrow_30 rfl ?_
  refine rn_getfield dX9_borrow_31 fo_X9_12 h_SH rfl ?_
  refine rn_getfield dX9_borrow_34 fo_X9_88 h_chip rfl ?_
  refine rn_iload_n dX9_borrow_37 rfl ?_
  refine rn_aaload dX9_borrow_38 h_nodes rfl (vp_in_nI (by omega) (by decide)) (refs_at rfl (by omega) (by decide)) ?_
  refine rn_getfield dX9_borrow_39 fo_X9_92 (h_node (by omega)) rfl ?_
  refine rn_bipush (v := 7) dX9_borrow_42 rfl ?_
  refine rn_icmp_ne (tgt := 51) dX9_borrow_44 rfl (fun q3 => absurd q3 (by exact fun z => z hkS)) (fun _ => ?_)
  refine rn_iconst (v := 1) dX9_borrow_47 rfl ?_
  refine rn_goto (tgt := 52) dX9_borrow_48 rfl ?_
  refine rn_callS dX9_borrow_52 cs_X9_37 (c_X9_mustFit (by decide)) rfl (by decide) (by decide) rfl (Nat.le_of_ble_eq_true rfl) ?_
  refine rn_aload_n dX9_borrow_55 rfl ?_
  refine rn_getfield dX9_borrow_56 fo_X9_21 h_SH rfl ?_
  refine rn_iload_n dX9_borrow_59 rfl ?_
  refine rn_iconst (v := 1) dX9_borrow_60 rfl ?_
  refine rn_topi (y := bI true) rfl ?_
  refine rn_callV dX9_borrow_61 cv_X9_164 k1 rfl h_an rfl rfl (by decide) (by decide) rfl (Nat.le_of_ble_eq_true rfl) ?_
  refine rn_getfield dX9_borrow_64 fo_X9_188 (h_tim (by omega)) rfl ?_
  refine rn_iload_n dX9_borrow_67 rfl ?_
  refine rn_daload dX9_borrow_68 (h_borrows (by omega)) rfl (vp_in_nI (by omega) (by decide)) ?_
  rw [nI_clamp (by omega)]
  rw [show sD S' (5 * jOf c true + 53) i = dv ((Q.T (jOf c true)).2.2.2 i) by rw [← a1.2.2 i hi]; exact congrFun (h1.1.2.2.2.1 _ hj).1.2.2.2 i]
  exact rn_ret dX9_borrow_69 trivial rfl
set_option maxRecDepth 20000 in
theorem q_worst {e : Nat} (h : Inq Q S) (he : e < Q.n) (hk : enB Q.X e = true): ∃ S', Inq Q S' ∧ Cn l D ad tc L xs mX9_worst 5 130 [.ref 1, .int (nI e), .int 0] (wd S E, sl) (some (.int (mWw Q.X e Q.n (Q.T 1).2.1))) (wd S' E, sl) := by
  have hN := h.1.1.1.1
  have hn := h.1.1.1.2
  have hC := h.1.1.2.2.1.1
  have hn3 := h.1.1.2.2.1.2.2
  have hen : enB S e = true := (enB_s (TZ_of (Inq_TS h)) (by omega)).trans hk
  obtain ⟨S', h1, a1, k1⟩ := q_timing (l := l) (D := D) (ad := ad) (tc := tc) (L := L) (xs := xs) (E := E) (sl := sl) (b := true) h (show 0 < 3 by omega)
  have hj := jOf_l (c := 0) (b := true) (by omega)
  have g1 := h1.1.2.2.2.1 1 (by decide)
  refine ⟨S', h1, ?_⟩
  refine cn_of (lv0 := [(0, .ref 1), (1, .int (nI e)), (2, .int 0)]) (by decide +kernel) ⟨_, rfl, rfl⟩ (fun _ => by simp [lg_sl, j_v, Value.category]) (fun _ => rfl) ?_
  refine rn_aload_n dX9_worst_0 rfl ?_
  refine rn_getfield dX9_worst_1 fo_X9_12 h_SH rfl ?_
  refine rn_iload_n dX9_worst_4 rfl ?_
  refine rn_callV dX9_worst_5 cv_X9_85 c_X1_hasNode rfl h_chip rfl rfl (by decide) (by decide) rfl (Nat.le_of_ble_eq_true rfl) ?_
  refine rn_topi (has_n hN hn he) ?_
  refine rn_callS dX9_worst_8 cs_X9_51 (c_X9_mustExist (by decide)) rfl (by decide) (by decide) rfl (Nat.le_of_ble_eq_true rfl) ?_
  refine rn_aload_n dX9_worst_11 rfl ?_
  refine rn_getfield dX9_worst_12 fo_X9_12 h_SH rfl ?_
  refine rn_getfield dX9_worst_15 fo_X9_88 h_chip rfl ?_
  refine rn_iload_n dX9_worst_18 rfl ?_
  refine rn_aaload dX9_worst_19 h_nodes rfl (vp_in_nI (by omega) (by decide)) (refs_at rfl (by omega) (by decide)) ?_
  refine rn_callV dX9_worst_20 cv_X9_135 (c_X5_isEndKind (by omega)) rfl (h_node (by omega)) rfl rfl (by decide) (by decide) rfl (Nat.le_of_ble_eq_true rfl) ?_
  refine rn_topi (is_b hen) ?_
  refine rn_if_eq (tgt := 40) dX9_worst_23 rfl (fun q1 => absurd q1 (by decide)) (fun _ => ?_)
  refine rn_iload_n dX9_worst_26 rfl ?_
  refine rn_iconst (v := 0) dX9_worst_27 rfl ?_
  refine rn_bipush (v := 15) dX9_worst_28 rfl ?_
  refine rn_callS dX9_worst_30 cs_X9_33 c_X9_isIn rfl (by decide) (by decide) rfl (Nat.le_of_ble_eq_true rfl) ?_
  refine rn_topi (y := 1) (by decide) ?_
  refine rn_if_eq (tgt := 40) dX9_worst_33 rfl (fun q2 => absurd q2 (by decide)) (fun _ => ?_)
  refine rn_iconst (v := 1) dX9_worst_36 rfl ?_
  refine rn_goto (tgt := 41) dX9_worst_37 rfl ?_
  refine rn_callS dX9_worst_41 cs_X9_37 (c_X9_mustFit (by decide)) rfl (by decide) (by decide) rfl (Nat.le_of_ble_eq_true rfl) ?_
  refine rn_aload_n dX9_worst_44 rfl ?_
  refine rn_getfield dX9_worst_45 fo_X9_21 h_SH rfl ?_
  refine rn_iconst (v := nI 0) dX9_worst_48 (by decide) ?_
  refine rn_iconst (v := 1) dX9_worst_49 rfl ?_
  refine rn_topi (y := bI true) rfl ?_
  refine rn_callV dX9_worst_50 cv_X9_164 k1 rfl h_an rfl rfl (by decide) (by decide) rfl (Nat.le_of_ble_eq_true rfl) ?_
  refine rn_iload_n dX9_worst_53 rfl ?_
  refine rn_iload_n dX9_worst_54 rfl ?_
  refine rn_callV dX9_worst_55 cv_X9_201 (c_X8_worstWay (j := 1) (by decide) h1.1.1 he g1.1.2.1 g1.2.2.1 g1.1.1 g1.2.1 (h1.1.1.2.2.2.2.2.1 e he).2.1) rfl (h_tim (by omega)) rfl rfl (by decide) (by decide) rfl (Nat.le_of_ble_eq_true rfl) ?_
  refine rn_topi (q_W h1 a1 he hk) ?_
  exact rn_ret dX9_worst_58 trivial rfl
end Q9
