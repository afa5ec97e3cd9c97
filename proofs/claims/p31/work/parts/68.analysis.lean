/-! Analysis: forget, paths, delays, timing, leastOfAll -/
def jOf (c : Nat) (b : Bool) : Nat := if b = true then 2 * c + 1 else 2 * c + 2
theorem jOf_l {c : Nat} {b : Bool} (hc : c < 3) : jOf c b < 7 := by unfold jOf; split <;> omega
theorem jOf_1 {c : Nat} {b : Bool} : 1 ≤ jOf c b := by unfold jOf; split <;> omega
theorem jOf_t {c : Nat} {b : Bool} (h : b = true) : 10 * c + 55 = 5 * jOf c b + 50 := by unfold jOf; rw [if_pos h]; omega
theorem jOf_f {c : Nat} {b : Bool} (h : b = false) : 10 * c + 60 = 5 * jOf c b + 50 := by unfold jOf; rw [if_neg (by rw [h]; decide)]; omega
def sFg1 (S : jS) (c : Nat) : jS := pI (pI S (5 * (2 * c + 1) + 49) 8 0) (5 * (2 * c + 2) + 49) 8 0
def sForget (S : jS) : jS := sFg1 (sFg1 (sFg1 (pI (pI S 38 5 0) 43 3 0) 0) 1) 2
def sPD (S : jS) (n nr : Nat) (w : Nat → Nat) : jS := sDelays (sPaths S n nr) w n 43
noncomputable def sTm (X : jS) (n j kl ke : Nat) (p : Nat → Int) : jS := if sI X (5 * j + 49) 8 = 0 then pI (sT X j (mRk X j kl ke n p (tOf X j))) (5 * j + 49) 8 1 else X
theorem sTm_0 {X : jS} {n j kl ke : Nat} {p : Nat → Int} (h : sI X (5 * j + 49) 8 = 0) : sTm X n j kl ke p = pI (sT X j (mRk X j kl ke n p (tOf X j))) (5 * j + 49) 8 1 := if_pos h
theorem sTm_1 {X : jS} {n j kl ke : Nat} {p : Nat → Int} (h : ¬ sI X (5 * j + 49) 8 = 0) : sTm X n j kl ke p = X := if_neg h
theorem TS_tm (X : jS) (n j kl ke : Nat) (p : Nat → Int) : TS X (sTm X n j kl ke p) := by
  unfold sTm
  split
  · exact TS_t (TS_T _ _ _) (TS_I _ (by omega))
  · exact TS_r X
theorem TS_pd (S : jS) (n nr : Nat) (w : Nat → Nat) : TS S (sPD S n nr w) := TS_t (TS_paths S n nr) (TS_delays _ w n (Or.inl rfl))
theorem sPaths_D (S : jS) (n nr a : Nat) : sD (sPaths S n nr) a = sD S a := by
  unfold sPaths
  split
  · exact congrFun (congrArg Prod.fst (((sChks_c (sPrep S n n) n nr n).2).trans (sPrep_c S n n).2)) a
  · rfl
theorem sPD_D {S : jS} {n nr a : Nat} {w : Nat → Nat} (h : 49 ≤ a) : sD (sPD S n nr w) a = sD S a := by
  rw [← sPaths_D S n nr a]
  unfold sPD sDelays
  split
  · exact up1_ne _ _ (by omega)
  · rfl
theorem sPD_G {S : jS} {n nr j : Nat} {w : Nat → Nat} (h : Grid S j) : Grid (sPD S n nr w) j := Grid_c (fun a h1 _ => sPD_D (by omega)) h
section T9
variable {l : Launch} {D : va_G} {ad : Nat → Nat} {tc : Nat → ClassId} {L : Nat} {xs : Nat → Int32} {S : jS} {E : List j_C} {sl x : Nat}
set_option maxRecDepth 20000 in
theorem lp_forget {c : Nat} {r : Option Value} {h' : j_H} (hc : c < 3) (K : Rn l D ad tc L xs mX0_forget 0 0 43 [(1, .int (nI c)), (0, .ref 36)] [] (wd (sFg1 S c) E, sl) r h') : Rn l D ad tc L xs mX0_forget 0 0 23 [(1, .int (nI c)), (0, .ref 36)] [] (wd S E, sl) r h' := by
  refine rn_aload_n dX0_forget_23 rfl ?_
  refine rn_getfield dX0_forget_24 fo_X0_11 h_an rfl ?_
  refine rn_iload_n dX0_forget_27 rfl ?_
  refine rn_aaload dX0_forget_28 h_lates rfl (vp_in_nI (by omega) (by decide)) (tref_at rfl (by omega)) ?_
  refine rn_topr (y := 5 * (2 * c + 1) + 50) (by omega) ?_
  refine rn_iconst (v := 0) dX0_forget_29 rfl ?_
  refine rn_pI (a := 5 * (2 * c + 1) + 49) dX0_forget_30 fp_X0_55 (by omega) cc_tim cc_timI (by simp) ⟨rfl, rfl⟩ ⟨_, _, _, rfl, rfl⟩ ?_
  refine rn_aload_n dX0_forget_33 rfl ?_
  refine rn_getfield dX0_forget_34 fo_X0_17 h_an rfl ?_
  refine rn_iload_n dX0_forget_37 rfl ?_
  refine rn_aaload dX0_forget_38 h_earlies rfl (vp_in_nI (by omega) (by decide)) (tref_at rfl (by omega)) ?_
  refine rn_topr (y := 5 * (2 * c + 2) + 50) (by omega) ?_
  refine rn_iconst (v := 0) dX0_forget_39 rfl ?_
  refine rn_pI (a := 5 * (2 * c + 2) + 49) dX0_forget_40 fp_X0_55 (by omega) cc_tim cc_timI (by simp) ⟨rfl, rfl⟩ ⟨_, _, _, rfl, rfl⟩ ?_
  exact rn_subg rfl K
set_option maxRecDepth 20000 in
theorem c_X0_forget  : Cn l D ad tc L xs mX0_forget 0 0 [.ref 36] (wd S E, sl) none (wd (sForget S) E, sl) := by
  refine cn_of (lv0 := [(0, .ref 36)]) (by decide +kernel) rfl (fun _ => by simp [lg_sl, j_v, Value.category]) (fun _ => rfl) ?_
  refine rn_aload_n dX0_forget_0 rfl ?_
  refine rn_getfield dX0_forget_1 fo_X0_29 h_an rfl ?_
  refine rn_iconst (v := 0) dX0_forget_4 rfl ?_
  refine rn_pI dX0_forget_5 fp_X0_50 (by decide) rfl rfl (by simp) ⟨rfl, rfl⟩ ⟨_, _, _, rfl, rfl⟩ ?_
  refine rn_aload_n dX0_forget_8 rfl ?_
  refine rn_getfield dX0_forget_9 fo_X0_36 h_an rfl ?_
  refine rn_iconst (v := 0) dX0_forget_12 rfl ?_
  refine rn_pI (a := 43) dX0_forget_13 fp_X0_54 (by decide) (cc_del (Or.inl rfl)) (cc_delI (Or.inl rfl)) (by simp) ⟨rfl, rfl⟩ ⟨_, _, _, rfl, rfl⟩ ?_
  refine rn_iconst (v := 0) dX0_forget_16 rfl ?_
  refine rn_istore_n dX0_forget_17 (by decide) rfl ?_
  refine rn_iload_n dX0_forget_18 rfl ?_
  refine rn_iconst (v := 3) dX0_forget_19 rfl ?_
  refine rn_icmp_ge (tgt := 49) dX0_forget_20 rfl (fun q => absurd q (by decide)) (fun _ => ?_)
  refine rn_subg (lv' := [(1, .int (nI 0)), (0, .ref 36)]) rfl (lp_forget (by decide) ?_)
  refine rn_iinc (v := 1) dX0_forget_43 rfl (by decide) (by decide) rfl ?_
  refine rn_goto (tgt := 18) dX0_forget_46 rfl ?_
  refine rn_iload_n dX0_forget_18 rfl ?_
  refine rn_iconst (v := 3) dX0_forget_19 rfl ?_
  refine rn_icmp_ge (tgt := 49) dX0_forget_20 rfl (fun q => absurd q (by decide)) (fun _ => ?_)
  refine rn_subg (lv' := [(1, .int (nI 1)), (0, .ref 36)]) rfl (lp_forget (by decide) ?_)
  refine rn_iinc (v := 2) dX0_forget_43 rfl (by decide) (by decide) rfl ?_
  refine rn_goto (tgt := 18) dX0_forget_46 rfl ?_
  refine rn_iload_n dX0_forget_18 rfl ?_
  refine rn_iconst (v := 3) dX0_forget_19 rfl ?_
  refine rn_icmp_ge (tgt := 49) dX0_forget_20 rfl (fun q => absurd q (by decide)) (fun _ => ?_)
  refine rn_subg (lv' := [(1, .int (nI 2)), (0, .ref 36)]) rfl (lp_forget (by decide) ?_)
  refine rn_iinc (v := 3) dX0_forget_43 rfl (by decide) (by decide) rfl ?_
  refine rn_goto (tgt := 18) dX0_forget_46 rfl ?_
  refine rn_iload_n dX0_forget_18 rfl ?_
  refine rn_iconst (v := 3) dX0_forget_19 rfl ?_
  refine rn_icmp_ge (tgt := 49) dX0_forget_20 rfl (fun _ => ?_) (fun q => absurd (by decide) q)
  exact rn_ret dX0_forget_49 trivial rfl
end T9
section T10
variable {l : Launch} {D : va_G} {ad : Nat → Nat} {tc : Nat → ClassId} {L : Nat} {xs : Nat → Int32} {S : jS} {E : List j_C} {sl x : Nat}
set_option maxRecDepth 20000 in
theorem c_X0_paths {n nr nc nk : Nat} (hT : Told S n nr nc nk) : Cn l D ad tc L xs mX0_paths 4 96 [.ref 36] (wd S E, sl) (some (.ref 39)) (wd (sPaths S n nr) E, sl) := by
  refine cn_of (lv0 := [(0, .ref 36)]) (by decide +kernel) ⟨_, rfl, Or.inl ⟨_, rfl⟩⟩ (fun _ => by simp [lg_sl, j_v, Value.category]) (fun _ => rfl) ?_
  refine rn_aload_n dX0_paths_0 rfl ?_
  refine rn_getfield dX0_paths_1 fo_X0_29 h_an rfl ?_
  refine rn_callV dX0_paths_4 cv_X0_56 (c_X6_prepare hT) rfl h_paths rfl rfl (by decide) (by decide) rfl (Nat.le_of_ble_eq_true rfl) ?_
  refine rn_aload_n dX0_paths_7 rfl ?_
  refine rn_getfield dX0_paths_8 fo_X0_29 h_an rfl ?_
  exact rn_ret dX0_paths_11 trivial rfl
set_option maxRecDepth 20000 in
theorem c_X0_delays {n nr nc nk : Nat} {w : Nat → Nat} (hT : Told S n nr nc nk) (hw : Tw S w) : Cn l D ad tc L xs mX0_delays 4 88 [.ref 36] (wd S E, sl) (some (.ref 44)) (wd (sDelays S w n 43) E, sl) := by
  refine cn_of (lv0 := [(0, .ref 36)]) (by decide +kernel) ⟨_, rfl, Or.inl ⟨_, rfl⟩⟩ (fun _ => by simp [lg_sl, j_v, Value.category]) (fun _ => rfl) ?_
  refine rn_aload_n dX0_delays_0 rfl ?_
  refine rn_getfield dX0_delays_1 fo_X0_36 h_an rfl ?_
  refine rn_callV dX0_delays_4 cv_X0_59 (c_X4_prepare (Or.inl rfl) hT hw) rfl (h_del (Or.inl rfl)) rfl rfl (by decide) (by decide) rfl (Nat.le_of_ble_eq_true rfl) ?_
  refine rn_aload_n dX0_delays_7 rfl ?_
  refine rn_getfield dX0_delays_8 fo_X0_36 h_an rfl ?_
  exact rn_ret dX0_delays_11 trivial rfl
set_option maxRecDepth 20000 in
theorem c_X0_timing {n nr nc nk c kl ke : Nat} {w : Nat → Nat} {p : Nat → Int} {b : Bool} (hT : Told S n nr nc nk) (hw : Tw S w) (hc : c < 3) (hkl : sD S (c + 10) 0 = dv (512 * kl)) (hke : sD S (c + 10) 1 = dv (512 * ke)) (hl1 : kl ≤ 16) (hk1 : ke ≤ kl) (hC : CkH (sPD S n nr w) n) (hP : rises (sPD S n nr w) (jOf c b) n p) (hG : Grid S (jOf c b)) : Cn l D ad tc L xs mX0_timing 4 107 [.ref 36, .int (nI c), .int (bI b)] (wd S E, sl) (some (.ref (5 * jOf c b + 50))) (wd (sTm (sPD S n nr w) n (jOf c b) kl ke p) E, sl) := by
  refine cn_of (lv0 := [(0, .ref 36), (1, .int (nI c)), (2, .int (bI b))]) (by decide +kernel) ⟨_, rfl, Or.inl ⟨_, rfl⟩⟩ (fun _ => by simp [lg_sl, j_v, Value.category]) (fun _ => rfl) ?_
  have hj := jOf_l (b := b) hc
  have hT1 := Told_s (TS_paths S n nr) hT
  have hw1 := Tw_s (TS_paths S n nr) hw
  have hT2 := Told_s (TS_pd S n nr w) hT
  have hkl2 := ((TS_pd S n nr w).2.1 (c + 10) 0 (by omega)).trans hkl
  have hke2 := ((TS_pd S n nr w).2.1 (c + 10) 1 (by omega)).trans hke
  have hG2 := sPD_G (n := n) (nr := nr) (w := w) hG
  refine rn_aload_n dX0_timing_0 rfl ?_
  refine rn_getfield dX0_timing_1 fo_X0_29 h_an rfl ?_
  refine rn_callV dX0_timing_4 cv_X0_56 (c_X6_prepare hT) rfl h_paths rfl rfl (by decide) (by decide) rfl (Nat.le_of_ble_eq_true rfl) ?_
  refine rn_aload_n dX0_timing_7 rfl ?_
  refine rn_getfield dX0_timing_8 fo_X0_36 h_an rfl ?_
  refine rn_callV dX0_timing_11 cv_X0_59 (c_X4_prepare (Or.inl rfl) hT1 hw1) rfl (h_del (Or.inl rfl)) rfl rfl (by decide) (by decide) rfl (Nat.le_of_ble_eq_true rfl) ?_
  rw [show sDelays (sPaths S n nr) w n 43 = sPD S n nr w from rfl]
  refine rn_iload_n dX0_timing_14 rfl ?_
  refine rn_if_eq (tgt := 27) dX0_timing_15 rfl (fun q1 => ?_) (fun q1 => ?_)
  · rw [bI_0] at q1
    have hb := q1
    refine rn_aload_n dX0_timing_27 rfl ?_
    refine rn_getfield dX0_timing_28 fo_X0_17 h_an rfl ?_
    refine rn_iload_n dX0_timing_31 rfl ?_
    refine rn_aaload dX0_timing_32 h_earlies rfl (vp_in_nI (by omega) (by decide)) (tref_at rfl (by omega)) ?_
    refine rn_topr (jOf_f hb) ?_
    refine rn_astore_n dX0_timing_33 (by decide) rfl ?_
    refine rn_aload_n dX0_timing_34 rfl ?_
    refine rn_getfield dX0_timing_35 fo_X0_55 (h_tim (by omega)) rfl ?_
    refine rn_if_ne (tgt := 54) dX0_timing_38 rfl (fun q2 => ?_) (fun q2 => ?_)
    · rw [sTm_1 q2]
      refine rn_aload_n dX0_timing_54 rfl ?_
      exact rn_ret dX0_timing_55 trivial rfl
    · rw [sTm_0 q2]
      refine rn_aload_n dX0_timing_41 rfl ?_
      refine rn_aload_n dX0_timing_42 rfl ?_
      refine rn_getfield dX0_timing_43 fo_X0_20 h_an rfl ?_
      refine rn_getfield dX0_timing_46 fo_X0_60 h_chip rfl ?_
      refine rn_iload_n dX0_timing_49 rfl ?_
      refine rn_aaload dX0_timing_50 h_corners rfl (vp_in_nI (by omega) (by decide)) (refs_at rfl (by omega) (by decide)) ?_
      refine rn_eq (h2 := (wd (sT (sPD S n nr w) (jOf c b) (tOf (sPD S n nr w) (jOf c b))) E, sl)) (by rw [sT_id hG2.1]) ?_
      refine rn_callV dX0_timing_51 cv_X0_66 (c_X8_reckon hj hc hkl2 hke2 hl1 hk1 hT2 hC hP hG2.2) rfl (h_tim (by omega)) rfl rfl (by decide) (by decide) rfl (Nat.le_of_ble_eq_true rfl) ?_
      refine rn_aload_n dX0_timing_54 rfl ?_
      exact rn_ret dX0_timing_55 trivial rfl
  · rw [bI_n] at q1
    have hb := q1
    refine rn_aload_n dX0_timing_18 rfl ?_
    refine rn_getfield dX0_timing_19 fo_X0_11 h_an rfl ?_
    refine rn_iload_n dX0_timing_22 rfl ?_
    refine rn_aaload dX0_timing_23 h_lates rfl (vp_in_nI (by omega) (by decide)) (tref_at rfl (by omega)) ?_
    refine rn_topr (jOf_t hb) ?_
    refine rn_goto (tgt := 33) dX0_timing_24 rfl ?_
    refine rn_astore_n dX0_timing_33 (by decide) rfl ?_
    refine rn_aload_n dX0_timing_34 rfl ?_
    refine rn_getfield dX0_timing_35 fo_X0_55 (h_tim (by omega)) rfl ?_
    refine rn_if_ne (tgt := 54) dX0_timing_38 rfl (fun q3 => ?_) (fun q3 => ?_)
    · rw [sTm_1 q3]
      refine rn_aload_n dX0_timing_54 rfl ?_
      exact rn_ret dX0_timing_55 trivial rfl
    · rw [sTm_0 q3]
      refine rn_aload_n dX0_timing_41 rfl ?_
      refine rn_aload_n dX0_timing_42 rfl ?_
      refine rn_getfield dX0_timing_43 fo_X0_20 h_an rfl ?_
      refine rn_getfield dX0_timing_46 fo_X0_60 h_chip rfl ?_
      refine rn_iload_n dX0_timing_49 rfl ?_
      refine rn_aaload dX0_timing_50 h_corners rfl (vp_in_nI (by omega) (by decide)) (refs_at rfl (by omega) (by decide)) ?_
      refine rn_eq (h2 := (wd (sT (sPD S n nr w) (jOf c b) (tOf (sPD S n nr w) (jOf c b))) E, sl)) (by rw [sT_id hG2.1]) ?_
      refine rn_callV dX0_timing_51 cv_X0_66 (c_X8_reckon hj hc hkl2 hke2 hl1 hk1 hT2 hC hP hG2.2) rfl (h_tim (by omega)) rfl rfl (by decide) (by decide) rfl (Nat.le_of_ble_eq_true rfl) ?_
      refine rn_aload_n dX0_timing_54 rfl ?_
      exact rn_ret dX0_timing_55 trivial rfl
end T10
