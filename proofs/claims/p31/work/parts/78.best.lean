/-! Asking: the best change -/
theorem sh_z : ∀ q, q < 3 → ((1 : Int32) <<< (nI q &&& 31) = 1 ∨ (1 : Int32) <<< (nI q &&& 31) = 2 ∨ (1 : Int32) <<< (nI q &&& 31) = 4) := by decide +kernel
/-- one size more is tried: the greatest so far, and the change that makes it -/
def bcS (Q : QC) (i q : Nat) (t : Int × Int32) : Int × Int32 := if sI Q.X (i + 13) 5 = (1 <<< (nI q &&& 31)) then t else if t.1 < vLW Q i (1 <<< (nI q &&& 31)) Q.nc then (vLW Q i (1 <<< (nI q &&& 31)) Q.nc, nI (4 * i + q)) else t
def vBCi (Q : QC) (i : Nat) (t : Int × Int32) : Nat → Int × Int32
  | 0 => t
  | q + 1 => bcS Q i q (vBCi Q i t q)
def vBCo (Q : QC) : Nat → Int × Int32
  | 0 => (vLA Q true Q.nc, -1)
  | i + 1 => vBCi Q i (vBCo Q i) 3
theorem bcS_e {Q : QC} {i q : Nat} {t : Int × Int32} (h : sI Q.X (i + 13) 5 = (1 <<< (nI q &&& 31))) : bcS Q i q t = t := if_pos h
theorem bcS_t {Q : QC} {i q : Nat} {t : Int × Int32} (h : ¬ sI Q.X (i + 13) 5 = (1 <<< (nI q &&& 31))) (h2 : t.1 < vLW Q i (1 <<< (nI q &&& 31)) Q.nc) : bcS Q i q t = (vLW Q i (1 <<< (nI q &&& 31)) Q.nc, nI (4 * i + q)) := by
  unfold bcS
  rw [if_neg h, if_pos h2]
theorem bcS_f {Q : QC} {i q : Nat} {t : Int × Int32} (h : ¬ sI Q.X (i + 13) 5 = (1 <<< (nI q &&& 31))) (h2 : ¬ t.1 < vLW Q i (1 <<< (nI q &&& 31)) Q.nc) : bcS Q i q t = t := by
  unfold bcS
  rw [if_neg h, if_neg h2]
def tR (t : Int × Int32) : Prop := -20000000 ≤ t.1 ∧ t.1 ≤ 409595904
theorem bcS_r {Q : QC} {S : jS} {i q : Nat} {t : Int × Int32} (h : Inq Q S) (hi : i < 16) (hq : q < 3) (ht : tR t) : tR (bcS Q i q t) := by
  unfold bcS
  split
  · exact ht
  · split
    · exact vLW_r h hi (sh_z q hq) Q.nc h.1.1.2.2.1.2.2
    · exact ht
theorem vBCi_r {Q : QC} {S : jS} {i : Nat} {t : Int × Int32} (h : Inq Q S) (hi : i < 16) (ht : tR t) : ∀ q, q ≤ 3 → tR (vBCi Q i t q)
  | 0, _ => ht
  | q + 1, hq => bcS_r h hi (by omega) (vBCi_r h hi ht q (by omega))
theorem vBCo_r {Q : QC} {S : jS} (h : Inq Q S) : ∀ i, i ≤ 16 → tR (vBCo Q i)
  | 0, _ => vLA_r h Q.nc h.1.1.2.2.1.2.2
  | i + 1, hi => vBCi_r h (by omega) (vBCo_r h i (by omega)) 3 (by decide)
section Q4
variable {l : Launch} {D : va_G} {ad : Nat → Nat} {tc : Nat → ClassId} {L : Nat} {xs : Nat → Int32} {S : jS} {E : List j_C} {sl x : Nat} {Q : QC}
set_option maxRecDepth 20000 in
theorem bc_step {i q : Nat} {t : Int × Int32} (h : Inq Q S) (hin : i < Q.n) (hq : q < 3) (ht : tR t) : ∃ S', Inq Q S' ∧ ∀ r h', Rn l D ad tc L xs mX0_bestChange 6 154 85 [(5, .int (nI q)), (4, .int (nI i)), (3, .int (bcS Q i q t).2), (1, .double (dv (bcS Q i q t).1)), (0, .ref 36)] [] (wd S' E, sl) r h' → Rn l D ad tc L xs mX0_bestChange 6 154 32 [(5, .int (nI q)), (4, .int (nI i)), (3, .int t.2), (1, .double (dv t.1)), (0, .ref 36)] [] (wd S E, sl) r h' := by
  have hn := h.1.1.1.2
  have hsz : sI S (i + 13) 5 = sI Q.X (i + 13) 5 := (Inq_TS h).1 _ _ (by omega)
  obtain ⟨t1, t2⟩ := t
  replace ht : -20000000 ≤ t1 ∧ t1 ≤ 409595904 := ht
  by_cases hs : sI Q.X (i + 13) 5 = (1 <<< (nI q &&& 31))
  · refine ⟨S, h, fun r h' K => ?_⟩
    rw [bcS_e hs] at K
    have hsS := hsz.trans hs
    refine rn_aload_n dX0_bestChange_32 rfl ?_
    refine rn_getfield dX0_bestChange_33 fo_X0_20 h_an rfl ?_
    refine rn_getfield dX0_bestChange_36 fo_X0_91 h_chip rfl ?_
    refine rn_iload dX0_bestChange_39 rfl ?_
    refine rn_aaload dX0_bestChange_41 h_nodes rfl (vp_in_nI (by omega) (by decide)) (refs_at rfl (by omega) (by decide)) ?_
    refine rn_getfield dX0_bestChange_42 fo_X0_105 (h_node (by omega)) rfl ?_
    refine rn_iconst (v := 1) dX0_bestChange_45 rfl ?_
    refine rn_iload dX0_bestChange_46 rfl ?_
    refine rn_ishl dX0_bestChange_48 ?_
    refine rn_icmp_ne (tgt := 55) dX0_bestChange_49 rfl (fun q1 => absurd q1 (by exact fun z => z hsS)) (fun _ => ?_)
    refine rn_goto (tgt := 85) dX0_bestChange_52 rfl ?_
    exact rn_subg rfl K
  · obtain ⟨S', h', kw⟩ := q_leastWith (l := l) (D := D) (ad := ad) (tc := tc) (L := L) (xs := xs) (E := E) (sl := sl) h hin (sh_z q hq)
    have hv := vLW_r h (show i < 16 by omega) (sh_z q hq) Q.nc h.1.1.2.2.1.2.2
    refine ⟨S', h', fun r hh K => ?_⟩
    have hsS : ¬ sI S (i + 13) 5 = (1 <<< (nI q &&& 31)) := fun z => hs (hsz.symm.trans z)
    refine rn_aload_n dX0_bestChange_32 rfl ?_
    refine rn_getfield dX0_bestChange_33 fo_X0_20 h_an rfl ?_
    refine rn_getfield dX0_bestChange_36 fo_X0_91 h_chip rfl ?_
    refine rn_iload dX0_bestChange_39 rfl ?_
    refine rn_aaload dX0_bestChange_41 h_nodes rfl (vp_in_nI (by omega) (by decide)) (refs_at rfl (by omega) (by decide)) ?_
    refine rn_getfield dX0_bestChange_42 fo_X0_105 (h_node (by omega)) rfl ?_
    refine rn_iconst (v := 1) dX0_bestChange_45 rfl ?_
    refine rn_iload dX0_bestChange_46 rfl ?_
    refine rn_ishl dX0_bestChange_48 ?_
    refine rn_icmp_ne (tgt := 55) dX0_bestChange_49 rfl (fun _ => ?_) (fun q1 => absurd q1 (by exact hsS))
    refine rn_aload_n dX0_bestChange_55 rfl ?_
    refine rn_iload dX0_bestChange_56 rfl ?_
    refine rn_iconst (v := 1) dX0_bestChange_58 rfl ?_
    refine rn_iload dX0_bestChange_59 rfl ?_
    refine rn_ishl dX0_bestChange_61 ?_
    refine rn_callV dX0_bestChange_62 cv_X0_114 kw rfl h_an rfl rfl (by decide) (by decide) rfl (Nat.le_of_ble_eq_true rfl) ?_
    refine rn_dstore dX0_bestChange_65 (by decide) rfl ?_
    refine rn_dload dX0_bestChange_67 rfl ?_
    refine rn_dload_n dX0_bestChange_69 rfl ?_
    refine rn_dcmpv dX0_bestChange_70 (dB_of (by omega) (by omega)) (dB_of (by omega) (by omega)) ?_
    refine rn_if_le (tgt := 85) dX0_bestChange_71 rfl (fun q2 => ?_) (fun q2 => ?_)
    · rw [bcS_f hs (fun z => absurd (cmpI_gt.mpr z) (Int32.not_lt.mpr q2))] at K
      exact rn_subg rfl K
    · rw [bcS_t hs (cmpI_gt.mp (Int32.not_le.mp q2))] at K
      refine rn_dload dX0_bestChange_74 rfl ?_
      refine rn_dstore_n dX0_bestChange_76 (by decide) rfl ?_
      refine rn_iconst (v := nI 4) dX0_bestChange_77 (by decide) ?_
      refine rn_iload dX0_bestChange_78 rfl ?_
      refine rn_imul dX0_bestChange_80 ?_
      refine rn_topi (nI_mul _ _) ?_
      refine rn_iload dX0_bestChange_81 rfl ?_
      refine rn_iadd dX0_bestChange_83 ?_
      refine rn_topi (nI_add _ _) ?_
      refine rn_istore_n dX0_bestChange_84 (by decide) rfl ?_
      exact rn_subg rfl K
set_option maxRecDepth 20000 in
theorem lp_bci {i : Nat} {t : Int × Int32} (hin : i < Q.n) (ht : tR t) : ∀ m q : Nat, q + m = 3 → ∀ S, Inq Q S → ∃ S', Inq Q S' ∧ ∀ r h', Rn l D ad tc L xs mX0_bestChange 6 154 91 [(4, .int (nI i)), (3, .int (vBCi Q i t 3).2), (1, .double (dv (vBCi Q i t 3).1)), (0, .ref 36)] [] (wd S' E, sl) r h' → Rn l D ad tc L xs mX0_bestChange 6 154 26 [(5, .int (nI q)), (4, .int (nI i)), (3, .int (vBCi Q i t q).2), (1, .double (dv (vBCi Q i t q).1)), (0, .ref 36)] [] (wd S E, sl) r h' := by
  intro m
  induction m with
  | zero =>
    intro q hk S h
    have hk' : q = 3 := by omega
    subst hk'
    refine ⟨S, h, fun r h' K => ?_⟩
    refine rn_iload dX0_bestChange_26 rfl ?_
    refine rn_iconst (v := nI 3) dX0_bestChange_28 (by decide) ?_
    refine rn_icmp_ge (tgt := 91) dX0_bestChange_29 rfl (fun _ => ?_) (fun q1 => absurd (by exact Int32.le_refl _) q1)
    exact rn_subg rfl K
  | succ m ih =>
    intro q hk S h
    have hn := h.1.1.1.2
    obtain ⟨S1, h1, k1⟩ := bc_step (l := l) (D := D) (ad := ad) (tc := tc) (L := L) (xs := xs) (E := E) (sl := sl) h hin (show q < 3 by omega) (vBCi_r h (show i < 16 by omega) ht q (by omega))
    obtain ⟨S2, h2, k2⟩ := ih (q + 1) (by omega) S1 h1
    refine ⟨S2, h2, fun r h' K => ?_⟩
    have KJ : Rn l D ad tc L xs mX0_bestChange 6 154 85 [(5, .int (nI q)), (4, .int (nI i)), (3, .int (bcS Q i q (vBCi Q i t q)).2), (1, .double (dv (bcS Q i q (vBCi Q i t q)).1)), (0, .ref 36)] [] (wd S1 E, sl) r h' := by
      refine rn_iinc dX0_bestChange_85 rfl (nI_1 _) (by decide) rfl ?_
      refine rn_goto (tgt := 26) dX0_bestChange_88 rfl ?_
      exact rn_subg rfl (k2 _ _ K)
    refine rn_iload dX0_bestChange_26 rfl ?_
    refine rn_iconst (v := nI 3) dX0_bestChange_28 (by decide) ?_
    refine rn_icmp_ge (tgt := 91) dX0_bestChange_29 rfl (fun q1 => absurd q1 (by rw [Int32.le_iff_toInt_le, nI_toInt (by omega), nI_toInt (by omega)] at q1; omega)) (fun _ => ?_)
    exact k1 _ _ KJ
set_option maxRecDepth 20000 in
theorem lp_bco  : ∀ m k : Nat, k + m = Q.n → ∀ S, Inq Q S → ∃ S', Inq Q S' ∧ Rn l D ad tc L xs mX0_bestChange 6 154 11 [(4, .int (nI k)), (3, .int (vBCo Q k).2), (1, .double (dv (vBCo Q k).1)), (0, .ref 36)] [] (wd S E, sl) (some (.int (vBCo Q Q.n).2)) (wd S' E, sl) := by
  intro m
  induction m with
  | zero =>
    intro k hk S h
    obtain ⟨n0, hn0⟩ : ∃ n0, n0 = Q.n := ⟨_, rfl⟩
    have hk' : n0 = k := by omega
    rw [← hn0]
    subst hk'
    have hN1 : sI S 1 6 = nI n0 := by rw [hn0]; exact h.1.1.1.1
    refine ⟨S, h, ?_⟩
    refine rn_iload dX0_bestChange_11 rfl ?_
    refine rn_aload_n dX0_bestChange_13 rfl ?_
    refine rn_getfield dX0_bestChange_14 fo_X0_20 h_an rfl ?_
    refine rn_getfield dX0_bestChange_17 fo_X0_88 h_chip rfl ?_
    refine rn_topi hN1 ?_
    refine rn_icmp_ge (tgt := 97) dX0_bestChange_20 rfl (fun _ => ?_) (fun q1 => absurd (by exact Int32.le_refl _) q1)
    refine rn_iload_n dX0_bestChange_97 rfl ?_
    exact rn_ret dX0_bestChange_98 trivial (by rw [hn0]; rfl)
  | succ m ih =>
    intro k hk S h
    obtain ⟨n0, hn0⟩ : ∃ n0, n0 = Q.n := ⟨_, rfl⟩
    have hN1 : sI S 1 6 = nI n0 := by rw [hn0]; exact h.1.1.1.1
    have hkn : k < n0 := by omega
    have hn16 := h.1.1.1.2
    obtain ⟨S1, h1, k1⟩ := lp_bci (l := l) (D := D) (ad := ad) (tc := tc) (L := L) (xs := xs) (E := E) (sl := sl) (show k < Q.n by omega) (vBCo_r h k (by omega)) 3 0 (by omega) S h
    obtain ⟨S', h', ih⟩ := ih (k + 1) (by omega) S1 h1
    refine ⟨S', h', ?_⟩
    have KJ : Rn l D ad tc L xs mX0_bestChange 6 154 91 [(4, .int (nI k)), (3, .int (vBCi Q k (vBCo Q k) 3).2), (1, .double (dv (vBCi Q k (vBCo Q k) 3).1)), (0, .ref 36)] [] (wd S1 E, sl) (some (.int (vBCo Q Q.n).2)) (wd S' E, sl) := by
      refine rn_iinc dX0_bestChange_91 rfl (nI_1 _) (by decide) rfl ?_
      refine rn_goto (tgt := 11) dX0_bestChange_94 rfl ?_
      exact rn_subg rfl ih
    refine rn_iload dX0_bestChange_11 rfl ?_
    refine rn_aload_n dX0_bestChange_13 rfl ?_
    refine rn_getfield dX0_bestChange_14 fo_X0_20 h_an rfl ?_
    refine rn_getfield dX0_bestChange_17 fo_X0_88 h_chip rfl ?_
    refine rn_topi hN1 ?_
    refine rn_icmp_ge (tgt := 97) dX0_bestChange_20 rfl (fun q1 => absurd q1 (by rw [Int32.le_iff_toInt_le, nI_toInt (by omega), nI_toInt (by omega)] at q1; omega)) (fun _ => ?_)
    refine rn_iconst (v := 0) dX0_bestChange_23 rfl ?_
    refine rn_istore dX0_bestChange_24 (by decide) rfl ?_
    exact rn_subg (lv' := [(5, .int (nI 0)), (4, .int (nI k)), (3, .int (vBCi Q k (vBCo Q k) 0).2), (1, .double (dv (vBCi Q k (vBCo Q k) 0).1)), (0, .ref 36)]) rfl (k1 _ _ KJ)
set_option maxRecDepth 20000 in
theorem q_bestChange (h : Inq Q S): ∃ S', Inq Q S' ∧ Cn l D ad tc L xs mX0_bestChange 6 154 [.ref 36] (wd S E, sl) (some (.int (vBCo Q Q.n).2)) (wd S' E, sl) := by
  obtain ⟨S1, h1, ka⟩ := q_leastOfAll (l := l) (D := D) (ad := ad) (tc := tc) (L := L) (xs := xs) (E := E) (sl := sl) (b := true) h
  obtain ⟨S', h', kb⟩ := lp_bco (l := l) (D := D) (ad := ad) (tc := tc) (L := L) (xs := xs) (E := E) (sl := sl) (Q := Q) Q.n 0 (by omega) S1 h1
  refine ⟨S', h', ?_⟩
  refine cn_of (lv0 := [(0, .ref 36)]) (by decide +kernel) ⟨_, rfl, rfl⟩ (fun _ => by simp [lg_sl, j_v, Value.category]) (fun _ => rfl) ?_
  refine rn_aload_n dX0_bestChange_0 rfl ?_
  refine rn_iconst (v := 1) dX0_bestChange_1 rfl ?_
  refine rn_callV dX0_bestChange_2 cv_X0_110 ka rfl h_an rfl rfl (by decide) (by decide) rfl (Nat.le_of_ble_eq_true rfl) ?_
  refine rn_dstore_n dX0_bestChange_5 (by decide) rfl ?_
  refine rn_iconst (v := (-1)) dX0_bestChange_6 rfl ?_
  refine rn_istore_n dX0_bestChange_7 (by decide) rfl ?_
  refine rn_iconst (v := 0) dX0_bestChange_8 rfl ?_
  refine rn_istore dX0_bestChange_9 (by decide) rfl ?_
  exact rn_subg (lv' := [(4, .int (nI 0)), (3, .int (vBCo Q 0).2), (1, .double (dv (vBCo Q 0).1)), (0, .ref 36)]) rfl kb
end Q4
