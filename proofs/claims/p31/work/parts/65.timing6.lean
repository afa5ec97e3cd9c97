/-! Timing: settle -/
def mSettle (S : jS) (j kl ke n e : Nat) (t : TT) : TT := if ¬ isLateT j = 0 ∧ kd S e = 7 then (t.1, mLn S e (mBr S n e (mSe S j kl ke e t.1 t.2.1 n)) (mSe S j kl ke e t.1 t.2.1 n) n, upZ t.2.2.1 e (mLs S e (mLn S e (mBr S n e (mSe S j kl ke e t.1 t.2.1 n)) (mSe S j kl ke e t.1 t.2.1 n) n) n), upZ t.2.2.2 e (mBr S n e (mSe S j kl ke e t.1 t.2.1 n))) else (t.1, mSe S j kl ke e t.1 t.2.1 n, upZ t.2.2.1 e (mLs S e (mSe S j kl ke e t.1 t.2.1 n) n), t.2.2.2)
theorem mSettle_t {S : jS} {j kl ke n e : Nat} {A Z M BB : Nat → Int} (h : ¬ isLateT j = 0) (h2 : kd S e = 7) : mSettle S j kl ke n e (A, Z, M, BB) = (A, mLn S e (mBr S n e (mSe S j kl ke e A Z n)) (mSe S j kl ke e A Z n) n, upZ M e (mLs S e (mLn S e (mBr S n e (mSe S j kl ke e A Z n)) (mSe S j kl ke e A Z n) n) n), upZ BB e (mBr S n e (mSe S j kl ke e A Z n))) := if_pos ⟨h, h2⟩
theorem mSettle_f {S : jS} {j kl ke n e : Nat} {A Z M BB : Nat → Int} (h : isLateT j = 0) : mSettle S j kl ke n e (A, Z, M, BB) = (A, mSe S j kl ke e A Z n, upZ M e (mLs S e (mSe S j kl ke e A Z n) n), BB) := if_neg (fun z => z.1 h)
theorem mSettle_g {S : jS} {j kl ke n e : Nat} {A Z M BB : Nat → Int} (h : ¬ kd S e = 7) : mSettle S j kl ke n e (A, Z, M, BB) = (A, mSe S j kl ke e A Z n, upZ M e (mLs S e (mSe S j kl ke e A Z n) n), BB) := if_neg (fun z => h z.2)
section T7
variable {l : Launch} {D : va_G} {ad : Nat → Nat} {tc : Nat → ClassId} {L : Nat} {xs : Nat → Int32} {S : jS} {E : List j_C} {sl x : Nat}
set_option maxRecDepth 20000 in
theorem lp_set3 {n nr nc nk j c e : Nat} {A Z M BB : Nat → Int} (hj : j < 7) (hT : Told S n nr nc nk) (hZ : okL Z) (he : e < n) : ∀ m k : Nat, k + m = n → Rn l D ad tc L xs mX8_settle 2 51 106 [(3, .int (nI k)), (0, .ref (5 * j + 50)), (1, .int (nI e)), (2, .ref (c + 11))] [] (wd (sT S j (A, Z, upZ M e (mLs S e Z k), BB)) E, sl) none (wd (sT S j (A, Z, upZ M e (mLs S e Z n), BB)) E, sl) := by
  obtain ⟨⟨hN, hn⟩, -, -, -, hv, -, -, hK, -, -⟩ := id hT
  intro m
  induction m with
  | zero =>
    intro k hk
    have hk' : n = k := by omega
    subst hk'
    have hN1 := hN
    refine rn_iload_n dX8_settle_106 rfl ?_
    refine rn_aload_n dX8_settle_107 rfl ?_
    refine rn_getfield dX8_settle_108 fo_X8_24 (h_tim (by omega)) rfl ?_
    refine rn_getfield dX8_settle_111 fo_X8_40 h_chip rfl ?_
    refine rn_topi hN1 ?_
    refine rn_icmp_ge (tgt := 144) dX8_settle_114 rfl (fun _ => ?_) (fun q1 => absurd (by exact Int32.le_refl _) q1)
    exact rn_ret dX8_settle_144 trivial rfl
  | succ m ih =>
    intro k hk
    have hN1 := hN
    have ih := ih (k + 1) (by omega)
    have KJ : Rn l D ad tc L xs mX8_settle 2 51 138 [(3, .int (nI k)), (0, .ref (5 * j + 50)), (1, .int (nI e)), (2, .ref (c + 11))] [] (wd (sT S j (A, Z, upZ M e (mLs S e Z (k + 1)), BB)) E, sl) none (wd (sT S j (A, Z, upZ M e (mLs S e Z n), BB)) E, sl) := by
      refine rn_iinc dX8_settle_138 rfl (nI_1 _) (by decide) rfl ?_
      refine rn_goto (tgt := 106) dX8_settle_141 rfl ?_
      exact rn_subg rfl ih
    have hms := mLs_r (S := S) (e := e) hZ k
    have hlo := mLo_r (S := S) (e := e) hZ k
    have LM : sD (sT S j (A, Z, upZ M e (mLs S e Z k), BB)) (5 * j + 52) e = dv (mLs S e Z k) := (congrFun (sT_m _ _ _) _).trans (congrArg dv (upZ_eq _ _ _))
    refine rn_iload_n dX8_settle_106 rfl ?_
    refine rn_aload_n dX8_settle_107 rfl ?_
    refine rn_getfield dX8_settle_108 fo_X8_24 (h_tim (by omega)) rfl ?_
    refine rn_getfield dX8_settle_111 fo_X8_40 h_chip rfl ?_
    refine rn_topi hN1 ?_
    refine rn_icmp_ge (tgt := 144) dX8_settle_114 rfl (fun q1 => absurd q1 (by rw [Int32.le_iff_toInt_le, nI_toInt (by omega), nI_toInt (by omega)] at q1; omega)) (fun _ => ?_)
    refine rn_aload_n dX8_settle_117 rfl ?_
    refine rn_getfield dX8_settle_118 fo_X8_18 (h_tim (by omega)) rfl ?_
    refine rn_iload_n dX8_settle_121 rfl ?_
    refine rn_aload_n dX8_settle_122 rfl ?_
    refine rn_getfield dX8_settle_123 fo_X8_18 (h_tim (by omega)) rfl ?_
    refine rn_iload_n dX8_settle_126 rfl ?_
    refine rn_daload dX8_settle_127 (h_leasts (by omega)) rfl (vp_in_nI (by omega) (by decide)) ?_
    rw [nI_clamp (by omega)]
    rw [LM]
    refine rn_aload_n dX8_settle_128 rfl ?_
    refine rn_iload_n dX8_settle_129 rfl ?_
    refine rn_iload_n dX8_settle_130 rfl ?_
    refine rn_callV dX8_settle_131 cv_X8_132 (c_X8_leftOf (S := sT S j (A, Z, upZ M e (mLs S e Z k), BB)) (p := Z (k * 16 + e)) hj (by omega) (by omega) (fun _ => congrFun (sT_l _ _ _) _)) rfl (h_tim (by omega)) rfl rfl (by decide) (by decide) rfl (Nat.le_of_ble_eq_true rfl) ?_
    refine rn_topd (y := dv (mLo S e Z k)) rfl ?_
    refine rn_callSN dX8_settle_134 csn_X8_135 (c_X9_smaller (dB_of (by omega) (by omega)) (dB_of (by omega) (by omega))) rfl (by decide) (by decide) rfl (Nat.le_of_ble_eq_true rfl) ?_
    refine rn_pD (a := 5 * _ + 52) dX8_settle_137 (by omega) cc_leasts pD_leasts (vp_in_nI (by omega) (by decide)) ?_
    rw [nI_clamp (by omega)]
    exact rn_eq (congrArg (fun z => (wd z E, sl)) ((sT_pM S j A Z _ BB _ _).trans (congrArg (fun z => sT S j (A, Z, z, BB)) (upZ_upZ M e _ _)))) (rn_subg rfl KJ)
set_option maxRecDepth 20000 in
theorem lp_set95 {n nr nc nk j c e : Nat} {A Z M BB : Nat → Int} (hj : j < 7) (hT : Told S n nr nc nk) (hZ : okL Z) (he : e < n) : Rn l D ad tc L xs mX8_settle 2 51 95 [(0, .ref (5 * j + 50)), (1, .int (nI e)), (2, .ref (c + 11))] [] (wd (sT S j (A, Z, M, BB)) E, sl) none (wd (sT S j (A, Z, upZ M e (mLs S e Z n), BB)) E, sl) := by
  have hn := hT.1.2
  refine rn_aload_n dX8_settle_95 rfl ?_
  refine rn_getfield dX8_settle_96 fo_X8_18 (h_tim (by omega)) rfl ?_
  refine rn_iload_n dX8_settle_99 rfl ?_
  refine rn_dcon (n := 0) (m := 409595904) dX8_settle_100 wd_339 (by decide +kernel) ?_
  refine rn_pD (a := 5 * _ + 52) dX8_settle_103 (by omega) cc_leasts pD_leasts (vp_in_nI (by omega) (by decide)) ?_
  rw [nI_clamp (by omega)]
  refine rn_eq (congrArg (fun z => (wd z E, sl)) (sT_pM S j A Z M BB _ _)) ?_
  refine rn_iconst (v := 0) dX8_settle_104 rfl ?_
  refine rn_istore_n dX8_settle_105 (by decide) rfl ?_
  exact rn_subg rfl (lp_set3 hj hT hZ he n 0 (by omega))
set_option maxRecDepth 20000 in
theorem lp_set1 {n nr nc nk j c kl ke e : Nat} {A Z M BB : Nat → Int} {r : Option Value} {h' : j_H} (hj : j < 7) (hc : c < 3) (hkl : sD S (c + 10) 0 = dv (512 * kl)) (hke : sD S (c + 10) 1 = dv (512 * ke)) (hl1 : kl ≤ 16) (hk1 : ke ≤ kl) (hT : Told S n nr nc nk) (hC : CkH S n) (hA : okA A) (hZ : okL Z) (he : e < n) (K : Rn l D ad tc L xs mX8_settle 2 51 66 [(0, .ref (5 * j + 50)), (1, .int (nI e)), (2, .ref (c + 11))] [] (wd (sT S j (A, mSe S j kl ke e A Z n, M, BB)) E, sl) r h') : ∀ m k : Nat, k + m = n → Rn l D ad tc L xs mX8_settle 2 51 2 [(3, .int (nI k)), (0, .ref (5 * j + 50)), (1, .int (nI e)), (2, .ref (c + 11))] [] (wd (sT S j (A, mSe S j kl ke e A Z k, M, BB)) E, sl) r h' := by
  obtain ⟨⟨hN, hn⟩, -, -, -, hv, -, -, hK, -, -⟩ := id hT
  intro m
  induction m with
  | zero =>
    intro k hk
    have hk' : n = k := by omega
    subst hk'
    have hN1 := hN
    refine rn_iload_n dX8_settle_2 rfl ?_
    refine rn_aload_n dX8_settle_3 rfl ?_
    refine rn_getfield dX8_settle_4 fo_X8_24 (h_tim (by omega)) rfl ?_
    refine rn_getfield dX8_settle_7 fo_X8_40 h_chip rfl ?_
    refine rn_topi hN1 ?_
    refine rn_icmp_ge (tgt := 66) dX8_settle_10 rfl (fun _ => ?_) (fun q1 => absurd (by exact Int32.le_refl _) q1)
    exact rn_subg rfl K
  | succ m ih =>
    intro k hk
    have hN1 := hN
    have ih := ih (k + 1) (by omega)
    have KJ : Rn l D ad tc L xs mX8_settle 2 51 60 [(3, .int (nI k)), (0, .ref (5 * j + 50)), (1, .int (nI e)), (2, .ref (c + 11))] [] (wd (sT S j (A, mSe S j kl ke e A Z (k + 1), M, BB)) E, sl) r h' := by
      refine rn_iinc dX8_settle_60 rfl (nI_1 _) (by decide) rfl ?_
      refine rn_goto (tgt := 2) dX8_settle_63 rfl ?_
      exact rn_subg rfl ih

    refine rn_iload_n dX8_settle_2 rfl ?_
    refine rn_aload_n dX8_settle_3 rfl ?_
    refine rn_getfield dX8_settle_4 fo_X8_24 (h_tim (by omega)) rfl ?_
    refine rn_getfield dX8_settle_7 fo_X8_40 h_chip rfl ?_
    refine rn_topi hN1 ?_
    refine rn_icmp_ge (tgt := 66) dX8_settle_10 rfl (fun q1 => absurd q1 (by rw [Int32.le_iff_toInt_le, nI_toInt (by omega), nI_toInt (by omega)] at q1; omega)) (fun _ => ?_)
    refine rn_aload_n dX8_settle_13 rfl ?_
    refine rn_getfield dX8_settle_14 fo_X8_28 (h_tim (by omega)) rfl ?_
    refine rn_iload_n dX8_settle_17 rfl ?_
    refine rn_iload_n dX8_settle_18 rfl ?_
    refine rn_callV dX8_settle_19 cv_X8_117 (c_X6_isChecked (by omega)) rfl h_paths rfl rfl (by decide) (by decide) rfl (Nat.le_of_ble_eq_true rfl) ?_
    refine rn_if_eq (tgt := 60) dX8_settle_22 rfl (fun q2 => ?_) (fun q2 => ?_)
    · rw [bI_0] at q2
      have hb0 : bitR (sA S 40) k e = false := q2
      first
        | exact rn_eq (congrArg (fun z => (wd z E, sl)) ((sT_pL S j A _ M BB _ _).trans (congrArg (fun z => sT S j (A, z, M, BB)) (mSe_t hb0).symm))) (rn_subg rfl KJ)
        | exact rn_eq (congrArg (fun z => (wd (sT S j (A, z, M, BB)) E, sl)) (mSe_f hb0).symm) (rn_subg rfl KJ)
    · rw [bI_n] at q2
      have hb0 : bitR (sA S 40) k e = true := q2
      refine rn_aload_n dX8_settle_25 rfl ?_
      refine rn_getfield dX8_settle_26 fo_X8_15 (h_tim (by omega)) rfl ?_
      refine rn_iload_n dX8_settle_29 rfl ?_
      refine rn_bipush (v := nI 16) dX8_settle_30 (by decide) ?_
      refine rn_imul dX8_settle_32 ?_
      refine rn_topi (nI_mul _ _) ?_
      refine rn_iload_n dX8_settle_33 rfl ?_
      refine rn_iadd dX8_settle_34 ?_
      refine rn_topi (nI_add _ _) ?_
      refine rn_aload_n dX8_settle_35 rfl ?_
      refine rn_getfield dX8_settle_36 fo_X8_36 (h_tim (by omega)) rfl ?_
      refine rn_if_eq (tgt := 52) dX8_settle_39 rfl (fun q3 => ?_) (fun q3 => ?_)
      · refine rn_aload_n dX8_settle_52 rfl ?_
        refine rn_iload_n dX8_settle_53 rfl ?_
        refine rn_iload_n dX8_settle_54 rfl ?_
        refine rn_aload_n dX8_settle_55 rfl ?_
        refine rn_callV dX8_settle_56 cv_X8_123 (w_Early hj hc hkl hke hl1 hk1 hT hC hA (by omega) he hb0 (by assumption)) rfl (h_tim (by omega)) rfl rfl (by decide) (by decide) rfl (Nat.le_of_ble_eq_true rfl) ?_
        refine rn_pD (a := 5 * _ + 51) dX8_settle_59 (by omega) cc_lefts pD_lefts (vp_in_nI (by omega) (by decide)) ?_
        rw [nI_clamp (by omega)]
        first
          | exact rn_eq (congrArg (fun z => (wd z E, sl)) ((sT_pL S j A _ M BB _ _).trans (congrArg (fun z => sT S j (A, z, M, BB)) (mSe_t hb0).symm))) (rn_subg rfl KJ)
          | exact rn_eq (congrArg (fun z => (wd (sT S j (A, z, M, BB)) E, sl)) (mSe_f hb0).symm) (rn_subg rfl KJ)
      · refine rn_aload_n dX8_settle_42 rfl ?_
        refine rn_iload_n dX8_settle_43 rfl ?_
        refine rn_iload_n dX8_settle_44 rfl ?_
        refine rn_aload_n dX8_settle_45 rfl ?_
        refine rn_callV dX8_settle_46 cv_X8_120 (w_Late hj hc hkl hke hl1 hk1 hT hC hA (by omega) he hb0 (by assumption)) rfl (h_tim (by omega)) rfl rfl (by decide) (by decide) rfl (Nat.le_of_ble_eq_true rfl) ?_
        refine rn_goto (tgt := 59) dX8_settle_49 rfl ?_
        refine rn_pD (a := 5 * _ + 51) dX8_settle_59 (by omega) cc_lefts pD_lefts (vp_in_nI (by omega) (by decide)) ?_
        rw [nI_clamp (by omega)]
        first
          | exact rn_eq (congrArg (fun z => (wd z E, sl)) ((sT_pL S j A _ M BB _ _).trans (congrArg (fun z => sT S j (A, z, M, BB)) (mSe_t hb0).symm))) (rn_subg rfl KJ)
          | exact rn_eq (congrArg (fun z => (wd (sT S j (A, z, M, BB)) E, sl)) (mSe_f hb0).symm) (rn_subg rfl KJ)
set_option maxRecDepth 20000 in
theorem lp_set66 {n nr nc nk j c kl ke e : Nat} {A Z M BB : Nat → Int} (hj : j < 7) (hc : c < 3) (hkl : sD S (c + 10) 0 = dv (512 * kl)) (hke : sD S (c + 10) 1 = dv (512 * ke)) (hl1 : kl ≤ 16) (hk1 : ke ≤ kl) (hT : Told S n nr nc nk) (hC : CkH S n) (hA : okA A) (hZ : okL Z) (he : e < n) : Rn l D ad tc L xs mX8_settle 2 51 66 [(0, .ref (5 * j + 50)), (1, .int (nI e)), (2, .ref (c + 11))] [] (wd (sT S j (A, mSe S j kl ke e A Z n, M, BB)) E, sl) none (wd (sT S j (mSettle S j kl ke n e (A, Z, M, BB))) E, sl) := by
  have hn := hT.1.2
  have hZ1 := mSe_ok (j := j) (kl := kl) (ke := ke) hT hC hA he hl1 hk1 hZ n (by omega)
  have hZ2 := mLn_ok (S := S) (e := e) hZ1 (mBr_r (n := n) hT (show e < 16 by omega) hZ1).1 n
  refine rn_aload_n dX8_settle_66 rfl ?_
  refine rn_getfield dX8_settle_67 fo_X8_36 (h_tim (by omega)) rfl ?_
  refine rn_if_eq (tgt := 95) dX8_settle_70 rfl (fun q1 => ?_) (fun q1 => ?_)
  · rw [mSettle_f q1]
    first
      | exact rn_subg rfl (lp_set95 hj hT hZ1 he)
      | exact rn_subg rfl (lp_set95 hj hT hZ2 he)
  · refine rn_aload_n dX8_settle_73 rfl ?_
    refine rn_getfield dX8_settle_74 fo_X8_24 (h_tim (by omega)) rfl ?_
    refine rn_getfield dX8_settle_77 fo_X8_46 h_chip rfl ?_
    refine rn_iload_n dX8_settle_80 rfl ?_
    refine rn_aaload dX8_settle_81 h_nodes rfl (vp_in_nI (by omega) (by decide)) (refs_at rfl (by omega) (by decide)) ?_
    refine rn_getfield dX8_settle_82 fo_X8_50 (h_node (by omega)) rfl ?_
    refine rn_bipush (v := 7) dX8_settle_85 rfl ?_
    refine rn_icmp_ne (tgt := 95) dX8_settle_87 rfl (fun q2 => ?_) (fun q2 => ?_)
    · rw [mSettle_g (S := S) q2]
      first
        | exact rn_subg rfl (lp_set95 hj hT hZ1 he)
        | exact rn_subg rfl (lp_set95 hj hT hZ2 he)
    · rw [mSettle_t (S := S) (by assumption) q2]
      refine rn_aload_n dX8_settle_90 rfl ?_
      refine rn_iload_n dX8_settle_91 rfl ?_
      refine rn_callV dX8_settle_92 cv_X8_126 (c_X8_lend hj hT hZ1 he) rfl (h_tim (by omega)) rfl rfl (by decide) (by decide) rfl (Nat.le_of_ble_eq_true rfl) ?_
      first
        | exact rn_subg rfl (lp_set95 hj hT hZ1 he)
        | exact rn_subg rfl (lp_set95 hj hT hZ2 he)
set_option maxRecDepth 20000 in
theorem c_X8_settle {n nr nc nk j c kl ke e : Nat} {A Z M BB : Nat → Int} (hj : j < 7) (hc : c < 3) (hkl : sD S (c + 10) 0 = dv (512 * kl)) (hke : sD S (c + 10) 1 = dv (512 * ke)) (hl1 : kl ≤ 16) (hk1 : ke ≤ kl) (hT : Told S n nr nc nk) (hC : CkH S n) (hA : okA A) (hZ : okL Z) (he : e < n) : Cn l D ad tc L xs mX8_settle 2 51 [.ref (5 * j + 50), .int (nI e), .ref (c + 11)] (wd (sT S j (A, Z, M, BB)) E, sl) none (wd (sT S j (mSettle S j kl ke n e (A, Z, M, BB))) E, sl) := by
  refine cn_of (lv0 := [(0, .ref (5 * j + 50)), (1, .int (nI e)), (2, .ref (c + 11))]) (by decide +kernel) rfl (fun _ => by simp [lg_sl, j_v, Value.category]) (fun _ => rfl) ?_
  refine rn_iconst (v := 0) dX8_settle_0 rfl ?_
  refine rn_istore_n dX8_settle_1 (by decide) rfl ?_
  exact rn_subg rfl (lp_set1 hj hc hkl hke hl1 hk1 hT hC hA hZ he (lp_set66 hj hc hkl hke hl1 hk1 hT hC hA hZ he) n 0 (by omega))
end T7
