/-! The first asking behind a telling -/
def Fst (Q : QC) : Prop := Inv Q.S Q.n Q.nr Q.nc Q.nk Q.w Q.kl Q.ke Q.p ∧ sI Q.S 38 5 = 0 ∧ (∀ j, 1 ≤ j → j < 7 → sI Q.S (5 * j + 49) 8 = 0) ∧ sI Q.S 0 2 = 0
theorem Fst_first {Q : QC} (h : Fst Q) : Inq Q (sPaths Q.S Q.n Q.nr) := Inq_first h.1 h.2.1 h.2.2.1
theorem Fst_9 {Q : QC} (h : Fst Q) : sI Q.X 0 2 = 0 := ((TS_pd Q.S Q.n Q.nr Q.w).1 0 2 (by decide)).trans h.2.2.2
/-- a chip that was told may be asked -/
theorem CI_Fst {S : jS} {n nr nc nk : Nat} (h : CI S n nr nc nk) (hf : sI S 38 5 = 0 ∧ sI S 43 3 = 0 ∧ ∀ j, 1 ≤ j → j < 7 → sI S (5 * j + 49) 8 = 0) : ∃ Q : QC, Fst Q ∧ Q.S = S ∧ Q.n = n ∧ Q.nr = nr ∧ Q.nc = nc ∧ Q.nk = nk := by
  obtain ⟨w, hw⟩ := Tw_of h.1
  have q := h.1.2.2.2.2.2.2.2.2.1
  have hkl : ∃ kl : Nat → Nat, ∀ c, c < 3 → 8 ≤ kl c ∧ kl c ≤ 16 ∧ sD S (c + 10) 0 = dv (512 * (kl c : Nat)) :=
    ⟨fun c => if hc : c < 3 then Classical.choose (q c hc).1 else 0, fun c hc => by
      simp only [dif_pos hc]
      exact Classical.choose_spec (q c hc).1⟩
  have hke : ∃ ke : Nat → Nat, ∀ c, c < 3 → 1 ≤ ke c ∧ ke c ≤ 8 ∧ sD S (c + 10) 1 = dv (512 * (ke c : Nat)) :=
    ⟨fun c => if hc : c < 3 then Classical.choose (q c hc).2 else 0, fun c hc => by
      simp only [dif_pos hc]
      exact Classical.choose_spec (q c hc).2⟩
  obtain ⟨kl, hkl⟩ := hkl
  obtain ⟨ke, hke⟩ := hke
  refine ⟨(S, (n, nr, nc, nk), (w, kl, ke), fun i => rho S i (qLd S w n i)), ⟨⟨h.1, hw, fun c hc => ⟨(hkl c hc).2.2, (hke c hc).2.2, (hkl c hc).2.1, ?_⟩, h.2.2, Or.inl hf.1, Or.inl hf.2.1, fun i _ => rfl⟩, hf.1, hf.2.2, h.2.1⟩, rfl, rfl, rfl, rfl, rfl⟩
  have a1 := (hkl c hc).1
  have a2 := (hke c hc).2.1
  show ke c ≤ kl c
  omega
section FS
variable {l : Launch} {D : va_G} {ad : Nat → Nat} {tc : Nat → ClassId} {L : Nat} {xs : Nat → Int32} {S : jS} {E : List j_C} {sl x : Nat} {Q : QC}
set_option maxRecDepth 20000 in
theorem f_many_0 (hF : Fst Q) : Cn l D ad tc L xs mX9_many 6 155 [.ref 1, .int (nI 0)] (wd Q.S E, sl) (some (.int (vMany Q 0))) (wd Q.S E, sl) := by
  refine cn_of (lv0 := [(0, .ref 1), (1, .int (nI 0))]) (by decide +kernel) ⟨_, rfl, rfl⟩ (fun _ => by simp [lg_sl, j_v, Value.category]) (fun _ => rfl) ?_
  refine rn_iload_n dX9_many_0 rfl ?_
  refine rn_iconst (v := 0) dX9_many_1 rfl ?_
  refine rn_bipush (v := 10) dX9_many_2 rfl ?_
  refine rn_callS dX9_many_4 cs_X9_33 c_X9_isIn rfl (by decide) (by decide) rfl (Nat.le_of_ble_eq_true rfl) ?_
  refine rn_topi (y := 1) (by decide) ?_
  refine rn_callS dX9_many_7 cs_X9_37 (c_X9_mustFit (by decide)) rfl (by decide) (by decide) rfl (Nat.le_of_ble_eq_true rfl) ?_
  refine rn_iload_n dX9_many_10 rfl ?_
  refine rn_tableIn (tgt := 64) dX9_many_11 (by decide) (by decide) rfl rfl ?_
  refine rn_aload_n dX9_many_64 rfl ?_
  refine rn_getfield dX9_many_65 fo_X9_12 h_SH rfl ?_
  refine rn_getfield dX9_many_68 fo_X9_25 h_chip rfl ?_
  refine rn_topi ((TS_pd Q.S Q.n Q.nr Q.w).1 1 4 (by decide)).symm ?_
  exact rn_ret dX9_many_71 trivial rfl
set_option maxRecDepth 20000 in
theorem f_many_1 (hF : Fst Q) : Cn l D ad tc L xs mX9_many 6 155 [.ref 1, .int (nI 1)] (wd Q.S E, sl) (some (.int (vMany Q 1))) (wd Q.S E, sl) := by
  refine cn_of (lv0 := [(0, .ref 1), (1, .int (nI 1))]) (by decide +kernel) ⟨_, rfl, rfl⟩ (fun _ => by simp [lg_sl, j_v, Value.category]) (fun _ => rfl) ?_
  refine rn_iload_n dX9_many_0 rfl ?_
  refine rn_iconst (v := 0) dX9_many_1 rfl ?_
  refine rn_bipush (v := 10) dX9_many_2 rfl ?_
  refine rn_callS dX9_many_4 cs_X9_33 c_X9_isIn rfl (by decide) (by decide) rfl (Nat.le_of_ble_eq_true rfl) ?_
  refine rn_topi (y := 1) (by decide) ?_
  refine rn_callS dX9_many_7 cs_X9_37 (c_X9_mustFit (by decide)) rfl (by decide) (by decide) rfl (Nat.le_of_ble_eq_true rfl) ?_
  refine rn_iload_n dX9_many_10 rfl ?_
  refine rn_tableIn (tgt := 72) dX9_many_11 (by decide) (by decide) rfl rfl ?_
  refine rn_aload_n dX9_many_72 rfl ?_
  refine rn_getfield dX9_many_73 fo_X9_12 h_SH rfl ?_
  refine rn_getfield dX9_many_76 fo_X9_75 h_chip rfl ?_
  refine rn_topi ((TS_pd Q.S Q.n Q.nr Q.w).1 1 5 (by decide)).symm ?_
  exact rn_ret dX9_many_79 trivial rfl
set_option maxRecDepth 20000 in
theorem f_many_2 (hF : Fst Q) : Cn l D ad tc L xs mX9_many 6 155 [.ref 1, .int (nI 2)] (wd Q.S E, sl) (some (.int (vMany Q 2))) (wd Q.S E, sl) := by
  refine cn_of (lv0 := [(0, .ref 1), (1, .int (nI 2))]) (by decide +kernel) ⟨_, rfl, rfl⟩ (fun _ => by simp [lg_sl, j_v, Value.category]) (fun _ => rfl) ?_
  refine rn_iload_n dX9_many_0 rfl ?_
  refine rn_iconst (v := 0) dX9_many_1 rfl ?_
  refine rn_bipush (v := 10) dX9_many_2 rfl ?_
  refine rn_callS dX9_many_4 cs_X9_33 c_X9_isIn rfl (by decide) (by decide) rfl (Nat.le_of_ble_eq_true rfl) ?_
  refine rn_topi (y := 1) (by decide) ?_
  refine rn_callS dX9_many_7 cs_X9_37 (c_X9_mustFit (by decide)) rfl (by decide) (by decide) rfl (Nat.le_of_ble_eq_true rfl) ?_
  refine rn_iload_n dX9_many_10 rfl ?_
  refine rn_tableIn (tgt := 80) dX9_many_11 (by decide) (by decide) rfl rfl ?_
  refine rn_aload_n dX9_many_80 rfl ?_
  refine rn_getfield dX9_many_81 fo_X9_12 h_SH rfl ?_
  refine rn_getfield dX9_many_84 fo_X9_82 h_chip rfl ?_
  refine rn_topi ((TS_pd Q.S Q.n Q.nr Q.w).1 1 6 (by decide)).symm ?_
  exact rn_ret dX9_many_87 trivial rfl
set_option maxRecDepth 20000 in
theorem f_many_3 (hF : Fst Q) : Cn l D ad tc L xs mX9_many 6 155 [.ref 1, .int (nI 3)] (wd Q.S E, sl) (some (.int (vMany Q 3))) (wd Q.S E, sl) := by
  refine cn_of (lv0 := [(0, .ref 1), (1, .int (nI 3))]) (by decide +kernel) ⟨_, rfl, rfl⟩ (fun _ => by simp [lg_sl, j_v, Value.category]) (fun _ => rfl) ?_
  refine rn_iload_n dX9_many_0 rfl ?_
  refine rn_iconst (v := 0) dX9_many_1 rfl ?_
  refine rn_bipush (v := 10) dX9_many_2 rfl ?_
  refine rn_callS dX9_many_4 cs_X9_33 c_X9_isIn rfl (by decide) (by decide) rfl (Nat.le_of_ble_eq_true rfl) ?_
  refine rn_topi (y := 1) (by decide) ?_
  refine rn_callS dX9_many_7 cs_X9_37 (c_X9_mustFit (by decide)) rfl (by decide) (by decide) rfl (Nat.le_of_ble_eq_true rfl) ?_
  refine rn_iload_n dX9_many_10 rfl ?_
  refine rn_tableIn (tgt := 88) dX9_many_11 (by decide) (by decide) rfl rfl ?_
  refine rn_aload_n dX9_many_88 rfl ?_
  refine rn_getfield dX9_many_89 fo_X9_12 h_SH rfl ?_
  refine rn_getfield dX9_many_92 fo_X9_128 h_chip rfl ?_
  refine rn_topi ((TS_pd Q.S Q.n Q.nr Q.w).1 1 7 (by decide)).symm ?_
  exact rn_ret dX9_many_95 trivial rfl
set_option maxRecDepth 20000 in
theorem f_many_4 (hF : Fst Q) : Cn l D ad tc L xs mX9_many 6 155 [.ref 1, .int (nI 4)] (wd Q.S E, sl) (some (.int (vMany Q 4))) (wd (sPaths Q.S Q.n Q.nr) E, sl) := by
  refine cn_of (lv0 := [(0, .ref 1), (1, .int (nI 4))]) (by decide +kernel) ⟨_, rfl, rfl⟩ (fun _ => by simp [lg_sl, j_v, Value.category]) (fun _ => rfl) ?_
  refine rn_iload_n dX9_many_0 rfl ?_
  refine rn_iconst (v := 0) dX9_many_1 rfl ?_
  refine rn_bipush (v := 10) dX9_many_2 rfl ?_
  refine rn_callS dX9_many_4 cs_X9_33 c_X9_isIn rfl (by decide) (by decide) rfl (Nat.le_of_ble_eq_true rfl) ?_
  refine rn_topi (y := 1) (by decide) ?_
  refine rn_callS dX9_many_7 cs_X9_37 (c_X9_mustFit (by decide)) rfl (by decide) (by decide) rfl (Nat.le_of_ble_eq_true rfl) ?_
  refine rn_iload_n dX9_many_10 rfl ?_
  refine rn_tableIn (tgt := 96) dX9_many_11 (by decide) (by decide) rfl rfl ?_
  refine rn_aload_n dX9_many_96 rfl ?_
  refine rn_getfield dX9_many_97 fo_X9_21 h_SH rfl ?_
  refine rn_callV dX9_many_100 cv_X9_192 (c_X0_paths hF.1.1) rfl h_an rfl rfl (by decide) (by decide) rfl (Nat.le_of_ble_eq_true rfl) ?_
  refine rn_callV dX9_many_103 cv_X9_204 (c_X6_checkedPairs (Told_s (TS_paths Q.S Q.n Q.nr) hF.1.1)) rfl h_paths rfl rfl (by decide) (by decide) rfl (Nat.le_of_ble_eq_true rfl) ?_
  rw [mCp_s (sDelays_A (sPaths Q.S Q.n Q.nr) Q.w Q.n 43).symm]
  exact rn_ret dX9_many_106 trivial rfl
set_option maxRecDepth 20000 in
theorem f_step {k : Nat} {S1 S2 : jS} {r : Option Value} {h' : j_H} (c : Cn l D ad tc L xs mX9_many 6 155 [.ref 1, .int (nI k)] (wd S1 E, sl) (some (.int (vMany Q k))) (wd S2 E, sl)) (hk : k ≤ 10) (K : Rn l D ad tc L xs mX9_digest 7 181 6 [(3, .int (nI (k + 1))), (1, .long (vD1 Q (k + 1))), (0, .ref 1)] [] (wd S2 E, sl) r h') : Rn l D ad tc L xs mX9_digest 7 181 6 [(3, .int (nI k)), (1, .long (vD1 Q k)), (0, .ref 1)] [] (wd S1 E, sl) r h' := by
  refine rn_iload_n dX9_digest_6 rfl ?_
  refine rn_bipush (v := 10) dX9_digest_7 rfl ?_
  refine rn_icmp_gt (tgt := 31) dX9_digest_9 rfl (fun q1 => absurd q1 (by rw [show (10 : Int32) = nI 10 by decide, Int32.lt_iff_toInt_lt, nI_toInt (by omega), nI_toInt (by omega)]; omega)) (fun _ => ?_)
  refine rn_lload_n dX9_digest_12 rfl ?_
  refine rn_ldc2 dX9_digest_13 wd_508 ?_
  refine rn_lmul dX9_digest_16 ?_
  refine rn_aload_n dX9_digest_17 rfl ?_
  refine rn_iload_n dX9_digest_18 rfl ?_
  refine rn_callV dX9_digest_19 cv_X9_233 c rfl h_SH rfl rfl (by decide) (by decide) rfl (Nat.le_of_ble_eq_true rfl) ?_
  refine rn_i2l dX9_digest_22 rfl ?_
  refine rn_ladd dX9_digest_23 ?_
  refine rn_lstore_n dX9_digest_24 (by decide) rfl ?_
  refine rn_iinc dX9_digest_25 rfl (nI_1 _) (by decide) rfl ?_
  refine rn_goto (tgt := 6) dX9_digest_28 rfl ?_
  exact rn_subg rfl K
set_option maxRecDepth 20000 in
theorem f_digest (hF : Fst Q): ∃ S', Inq Q S' ∧ Cn l D ad tc L xs mX9_digest 7 181 [.ref 1] (wd Q.S E, sl) (some (.long (vDig Q))) (wd S' E, sl) := by
  obtain ⟨S', h', k2⟩ := lp_d1 (l := l) (D := D) (ad := ad) (tc := tc) (L := L) (xs := xs) (E := E) (sl := sl) (Q := Q) (Fst_9 hF) 6 5 (by decide) _ (Fst_first hF)
  refine ⟨S', h', ?_⟩
  refine cn_of (lv0 := [(0, .ref 1)]) (by decide +kernel) rfl (fun _ => by simp [lg_sl, j_v, Value.category]) (fun _ => rfl) ?_
  refine rn_ldc2 dX9_digest_0 wd_507 ?_
  refine rn_lstore_n dX9_digest_3 (by decide) rfl ?_
  refine rn_iconst (v := nI 0) dX9_digest_4 (by decide) ?_
  refine rn_istore_n dX9_digest_5 (by decide) rfl ?_
  exact rn_subg (lv' := [(3, .int (nI 0)), (1, .long (vD1 Q 0)), (0, .ref 1)]) rfl (f_step (f_many_0 hF) (by decide) (f_step (f_many_1 hF) (by decide) (f_step (f_many_2 hF) (by decide) (f_step (f_many_3 hF) (by decide) (f_step (f_many_4 hF) (by decide) k2)))))
end FS
