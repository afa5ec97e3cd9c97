/-! The face: digest -/
def vD1 (Q : QC) : Nat → Int64
  | 0 => 9604
  | k + 1 => vD1 Q k * 31 + (vMany Q k).toInt64
def vD2i (Q : QC) (v : Nat) (d : Int64) : Nat → Int64
  | 0 => d
  | k + 1 => vD2i Q v d k * 31 + (cTell Q.X v k).toInt64
def vD2 (Q : QC) : Nat → Int64
  | 0 => vD1 Q 11
  | v + 1 => vD2i Q v (vD2 Q v) 5
def vD3 (Q : QC) : Nat → Int64
  | 0 => vD2 Q Q.nk
  | i + 1 => vDN Q i (vD3 Q i)
def vDig (Q : QC) : Int64 := vD3 Q Q.n * 31 + (vBCo Q Q.n).2.toInt64
section Q13
variable {l : Launch} {D : va_G} {ad : Nat → Nat} {tc : Nat → ClassId} {L : Nat} {xs : Nat → Int32} {S : jS} {E : List j_C} {sl x : Nat} {Q : QC}
set_option maxRecDepth 20000 in
theorem lp_d3  : ∀ m k : Nat, k + m = Q.n → ∀ S, Inq Q S → ∃ S', Inq Q S' ∧ Rn l D ad tc L xs mX9_digest 7 181 82 [(3, .int (nI k)), (1, .long (vD3 Q k)), (0, .ref 1)] [] (wd S E, sl) (some (.long (vDig Q))) (wd S' E, sl) := by
  intro m
  induction m with
  | zero =>
    intro k hk S h
    obtain ⟨n0, hn0⟩ : ∃ n0, n0 = Q.n := ⟨_, rfl⟩
    have hk' : n0 = k := by omega
    subst hk'
    have hN1 : sI S 1 6 = nI n0 := by rw [hn0]; exact h.1.1.1.1
    obtain ⟨S', h', ka⟩ := q_bestChange (l := l) (D := D) (ad := ad) (tc := tc) (L := L) (xs := xs) (E := E) (sl := sl) h
    have kb : Rn l D ad tc L xs mX9_digest 7 181 106 [(1, .long (vD3 Q Q.n)), (0, .ref 1)] [] (wd S E, sl) (some (.long (vDig Q))) (wd S' E, sl) := by
      refine rn_lload_n dX9_digest_106 rfl ?_
      refine rn_ldc2 dX9_digest_107 wd_508 ?_
      refine rn_lmul dX9_digest_110 ?_
      refine rn_aload_n dX9_digest_111 rfl ?_
      refine rn_getfield dX9_digest_112 fo_X9_21 h_SH rfl ?_
      refine rn_callV dX9_digest_115 cv_X9_222 ka rfl h_an rfl rfl (by decide) (by decide) rfl (Nat.le_of_ble_eq_true rfl) ?_
      refine rn_i2l dX9_digest_118 rfl ?_
      refine rn_ladd dX9_digest_119 ?_
      exact rn_ret dX9_digest_120 trivial rfl
    rw [← hn0] at kb
    refine ⟨S', h', ?_⟩
    refine rn_iload_n dX9_digest_82 rfl ?_
    refine rn_aload_n dX9_digest_83 rfl ?_
    refine rn_getfield dX9_digest_84 fo_X9_12 h_SH rfl ?_
    refine rn_getfield dX9_digest_87 fo_X9_82 h_chip rfl ?_
    refine rn_topi hN1 ?_
    refine rn_icmp_ge (tgt := 106) dX9_digest_90 rfl (fun _ => ?_) (fun q1 => absurd (by exact Int32.le_refl _) q1)
    exact rn_subg rfl kb
  | succ m ih =>
    intro k hk S h
    obtain ⟨n0, hn0⟩ : ∃ n0, n0 = Q.n := ⟨_, rfl⟩
    have hN1 : sI S 1 6 = nI n0 := by rw [hn0]; exact h.1.1.1.1
    have hkn : k < n0 := by omega
    have hn16 := h.1.1.1.2
    obtain ⟨S1, h1, k1⟩ := q_digestNode (l := l) (D := D) (ad := ad) (tc := tc) (L := L) (xs := xs) (E := E) (sl := sl) (d := vD3 Q k) h (show k < Q.n by omega)
    obtain ⟨S', h', ih⟩ := ih (k + 1) (by omega) S1 h1
    refine ⟨S', h', ?_⟩
    refine rn_iload_n dX9_digest_82 rfl ?_
    refine rn_aload_n dX9_digest_83 rfl ?_
    refine rn_getfield dX9_digest_84 fo_X9_12 h_SH rfl ?_
    refine rn_getfield dX9_digest_87 fo_X9_82 h_chip rfl ?_
    refine rn_topi hN1 ?_
    refine rn_icmp_ge (tgt := 106) dX9_digest_90 rfl (fun q1 => absurd q1 (by rw [Int32.le_iff_toInt_le, nI_toInt (by omega), nI_toInt (by omega)] at q1; omega)) (fun _ => ?_)
    refine rn_aload_n dX9_digest_93 rfl ?_
    refine rn_lload_n dX9_digest_94 rfl ?_
    refine rn_iload_n dX9_digest_95 rfl ?_
    refine rn_callV dX9_digest_96 cv_X9_239 k1 rfl h_SH rfl rfl (by decide) (by decide) rfl (Nat.le_of_ble_eq_true rfl) ?_
    refine rn_lstore_n dX9_digest_99 (by decide) rfl ?_
    refine rn_iinc dX9_digest_100 rfl (nI_1 _) (by decide) rfl ?_
    refine rn_goto (tgt := 82) dX9_digest_103 rfl ?_
    exact rn_subg rfl ih
set_option maxRecDepth 20000 in
theorem lp_d2i {v : Nat} {d : Int64} {r : Option Value} {h' : j_H} (h : Inq Q S) (hv : v < Q.nk) (K : Rn l D ad tc L xs mX9_digest 7 181 74 [(3, .int (nI v)), (1, .long (vD2i Q v d 5)), (0, .ref 1)] [] (wd S E, sl) r h') : ∀ m k : Nat, k + m = 5 → Rn l D ad tc L xs mX9_digest 7 181 47 [(4, .int (nI k)), (3, .int (nI v)), (1, .long (vD2i Q v d k)), (0, .ref 1)] [] (wd S E, sl) r h' := by
  have hk4 := h.1.1.2.2.2.1.2
  intro m
  induction m with
  | zero =>
    intro k hk
    have hk' : k = 5 := by omega
    subst hk'
    refine rn_iload dX9_digest_47 rfl ?_
    refine rn_iconst (v := 4) dX9_digest_49 rfl ?_
    refine rn_icmp_gt (tgt := 74) dX9_digest_50 rfl (fun _ => ?_) (fun q1 => absurd (by rw [show (4 : Int32) = nI 4 by decide, Int32.lt_iff_toInt_lt, nI_toInt (by omega), nI_toInt (by omega)]; omega) q1)
    exact rn_subg rfl K
  | succ m ih =>
    intro k hk
    have ih := ih (k + 1) (by omega)
    refine rn_iload dX9_digest_47 rfl ?_
    refine rn_iconst (v := 4) dX9_digest_49 rfl ?_
    refine rn_icmp_gt (tgt := 74) dX9_digest_50 rfl (fun q1 => absurd q1 (by rw [show (4 : Int32) = nI 4 by decide, Int32.lt_iff_toInt_lt, nI_toInt (by omega), nI_toInt (by omega)]; omega)) (fun _ => ?_)
    refine rn_lload_n dX9_digest_53 rfl ?_
    refine rn_ldc2 dX9_digest_54 wd_508 ?_
    refine rn_lmul dX9_digest_57 ?_
    refine rn_aload_n dX9_digest_58 rfl ?_
    refine rn_iload_n dX9_digest_59 rfl ?_
    refine rn_iload dX9_digest_60 rfl ?_
    refine rn_callV dX9_digest_62 cv_X9_236 (c_X9_ofClock h.1.1 hv (by omega)) rfl h_SH rfl rfl (by decide) (by decide) rfl (Nat.le_of_ble_eq_true rfl) ?_
    rw [cTell_s (Inq_TS h) (by omega)]
    refine rn_i2l dX9_digest_65 rfl ?_
    refine rn_ladd dX9_digest_66 ?_
    refine rn_lstore_n dX9_digest_67 (by decide) rfl ?_
    refine rn_iinc dX9_digest_68 rfl (nI_1 _) (by decide) rfl ?_
    refine rn_goto (tgt := 47) dX9_digest_71 rfl ?_
    exact rn_subg rfl ih
set_option maxRecDepth 20000 in
theorem lp_d2 {r : Option Value} {h' : j_H} (h : Inq Q S) (K : Rn l D ad tc L xs mX9_digest 7 181 82 [(3, .int (nI 0)), (1, .long (vD3 Q 0)), (0, .ref 1)] [] (wd S E, sl) r h') : ∀ m k : Nat, k + m = Q.nk → Rn l D ad tc L xs mX9_digest 7 181 33 [(3, .int (nI k)), (1, .long (vD2 Q k)), (0, .ref 1)] [] (wd S E, sl) r h' := by
  have hk4 := h.1.1.2.2.2.1.2
  intro m
  induction m with
  | zero =>
    intro k hk
    obtain ⟨n0, hn0⟩ : ∃ n0, n0 = Q.nk := ⟨_, rfl⟩
    have hk' : n0 = k := by omega
    subst hk'
    have hN1 : sI S 1 4 = nI n0 := by rw [hn0]; exact h.1.1.2.2.2.1.1
    have kb : Rn l D ad tc L xs mX9_digest 7 181 82 [(3, .int (nI 0)), (1, .long (vD2 Q n0)), (0, .ref 1)] [] (wd S E, sl) r h' := by
      rw [hn0]
      exact K
    refine rn_iload_n dX9_digest_33 rfl ?_
    refine rn_aload_n dX9_digest_34 rfl ?_
    refine rn_getfield dX9_digest_35 fo_X9_12 h_SH rfl ?_
    refine rn_getfield dX9_digest_38 fo_X9_25 h_chip rfl ?_
    refine rn_topi hN1 ?_
    refine rn_icmp_ge (tgt := 80) dX9_digest_41 rfl (fun _ => ?_) (fun q1 => absurd (by exact Int32.le_refl _) q1)
    refine rn_iconst (v := 0) dX9_digest_80 rfl ?_
    refine rn_istore_n dX9_digest_81 (by decide) rfl ?_
    exact rn_subg rfl kb
  | succ m ih =>
    intro k hk
    obtain ⟨n0, hn0⟩ : ∃ n0, n0 = Q.nk := ⟨_, rfl⟩
    have hN1 : sI S 1 4 = nI n0 := by rw [hn0]; exact h.1.1.2.2.2.1.1
    have hkn : k < n0 := by omega
    have ih := ih (k + 1) (by omega)
    have KJ : Rn l D ad tc L xs mX9_digest 7 181 74 [(3, .int (nI k)), (1, .long (vD2i Q k (vD2 Q k) 5)), (0, .ref 1)] [] (wd S E, sl) r h' := by
      refine rn_iinc dX9_digest_74 rfl (nI_1 _) (by decide) rfl ?_
      refine rn_goto (tgt := 33) dX9_digest_77 rfl ?_
      exact rn_subg rfl ih
    refine rn_iload_n dX9_digest_33 rfl ?_
    refine rn_aload_n dX9_digest_34 rfl ?_
    refine rn_getfield dX9_digest_35 fo_X9_12 h_SH rfl ?_
    refine rn_getfield dX9_digest_38 fo_X9_25 h_chip rfl ?_
    refine rn_topi hN1 ?_
    refine rn_icmp_ge (tgt := 80) dX9_digest_41 rfl (fun q1 => absurd q1 (by rw [Int32.le_iff_toInt_le, nI_toInt (by omega), nI_toInt (by omega)] at q1; omega)) (fun _ => ?_)
    refine rn_iconst (v := 0) dX9_digest_44 rfl ?_
    refine rn_istore dX9_digest_45 (by decide) rfl ?_
    exact rn_subg (lv' := [(4, .int (nI 0)), (3, .int (nI k)), (1, .long (vD2i Q k (vD2 Q k) 0)), (0, .ref 1)]) rfl (lp_d2i h (by omega) KJ 5 0 (by decide))
set_option maxRecDepth 20000 in
theorem lp_d1 (h9 : sI Q.X 0 2 = 0) : ∀ m k : Nat, k + m = 11 → ∀ S, Inq Q S → ∃ S', Inq Q S' ∧ Rn l D ad tc L xs mX9_digest 7 181 6 [(3, .int (nI k)), (1, .long (vD1 Q k)), (0, .ref 1)] [] (wd S E, sl) (some (.long (vDig Q))) (wd S' E, sl) := by
  intro m
  induction m with
  | zero =>
    intro k hk S h
    have hk' : k = 11 := by omega
    subst hk'
    have hk4 := h.1.1.2.2.2.1.2
    obtain ⟨S', h', kb⟩ := lp_d3 (l := l) (D := D) (ad := ad) (tc := tc) (L := L) (xs := xs) (E := E) (sl := sl) (Q := Q) Q.n 0 (by omega) S h
    refine ⟨S', h', ?_⟩
    refine rn_iload_n dX9_digest_6 rfl ?_
    refine rn_bipush (v := 10) dX9_digest_7 rfl ?_
    refine rn_icmp_gt (tgt := 31) dX9_digest_9 rfl (fun _ => ?_) (fun q1 => absurd (by rw [show (10 : Int32) = nI 10 by decide, Int32.lt_iff_toInt_lt, nI_toInt (by omega), nI_toInt (by omega)]; omega) q1)
    refine rn_iconst (v := 0) dX9_digest_31 rfl ?_
    refine rn_istore_n dX9_digest_32 (by decide) rfl ?_
    exact rn_subg (lv' := [(3, .int (nI 0)), (1, .long (vD2 Q 0)), (0, .ref 1)]) rfl (lp_d2 h kb Q.nk 0 (by omega))
  | succ m ih =>
    intro k hk S h
    obtain ⟨S1, h1, k1⟩ := q_many (l := l) (D := D) (ad := ad) (tc := tc) (L := L) (xs := xs) (E := E) (sl := sl) (k := k) h h9 (by omega)
    obtain ⟨S', h', ih⟩ := ih (k + 1) (by omega) S1 h1
    refine ⟨S', h', ?_⟩
    refine rn_iload_n dX9_digest_6 rfl ?_
    refine rn_bipush (v := 10) dX9_digest_7 rfl ?_
    refine rn_icmp_gt (tgt := 31) dX9_digest_9 rfl (fun q1 => absurd q1 (by rw [show (10 : Int32) = nI 10 by decide, Int32.lt_iff_toInt_lt, nI_toInt (by omega), nI_toInt (by omega)]; omega)) (fun _ => ?_)
    refine rn_lload_n dX9_digest_12 rfl ?_
    refine rn_ldc2 dX9_digest_13 wd_508 ?_
    refine rn_lmul dX9_digest_16 ?_
    refine rn_aload_n dX9_digest_17 rfl ?_
    refine rn_iload_n dX9_digest_18 rfl ?_
    refine rn_callV dX9_digest_19 cv_X9_233 k1 rfl h_SH rfl rfl (by decide) (by decide) rfl (Nat.le_of_ble_eq_true rfl) ?_
    refine rn_i2l dX9_digest_22 rfl ?_
    refine rn_ladd dX9_digest_23 ?_
    refine rn_lstore_n dX9_digest_24 (by decide) rfl ?_
    refine rn_iinc dX9_digest_25 rfl (nI_1 _) (by decide) rfl ?_
    refine rn_goto (tgt := 6) dX9_digest_28 rfl ?_
    exact rn_subg rfl ih
set_option maxRecDepth 20000 in
theorem q_digest (h : Inq Q S) (h9 : sI Q.X 0 2 = 0): ∃ S', Inq Q S' ∧ Cn l D ad tc L xs mX9_digest 7 181 [.ref 1] (wd S E, sl) (some (.long (vDig Q))) (wd S' E, sl) := by
  obtain ⟨S', h', k2⟩ := lp_d1 (l := l) (D := D) (ad := ad) (tc := tc) (L := L) (xs := xs) (E := E) (sl := sl) (Q := Q) h9 11 0 (by decide) S h
  refine ⟨S', h', ?_⟩
  refine cn_of (lv0 := [(0, .ref 1)]) (by decide +kernel) rfl (fun _ => by simp [lg_sl, j_v, Value.category]) (fun _ => rfl) ?_
  refine rn_ldc2 dX9_digest_0 wd_507 ?_
  refine rn_lstore_n dX9_digest_3 (by decide) rfl ?_
  refine rn_iconst (v := nI 0) dX9_digest_4 (by decide) ?_
  refine rn_istore_n dX9_digest_5 (by decide) rfl ?_
  exact rn_subg (lv' := [(3, .int (nI 0)), (1, .long (vD1 Q 0)), (0, .ref 1)]) rfl k2
end Q13
