/-! Counts: timesFeed, crossings, checkedPairs -/
def mTf (S : jS) (v : Int32) : Nat → Int32
  | 0 => 0
  | i + 1 => mTf S v i + ((if fe1 S i = v then 1 else 0) + (if fe2 S i = v then 1 else 0))
def mSf (S : jS) (s e : Nat) : Bool := decide (kd S s = 6 ∧ kd S e = 6 ∧ fe1 S e = nI s)
def mX0 (S : jS) (R : Nat → Int32) (b : Bool) (s e : Nat) : Bool := mCome S R s e && !(mGrp S s e) && (!b || mSf S s e)
def mX1 (S : jS) (R : Nat → Int32) (b : Bool) (s : Nat) (c : Int32) : Nat → Int32
  | 0 => c
  | e + 1 => if mX0 S R b s e = true then mX1 S R b s c e + 1 else mX1 S R b s c e
def mX2 (S : jS) (R : Nat → Int32) (b : Bool) (n : Nat) : Nat → Int32
  | 0 => 0
  | s + 1 => mX1 S R b s (mX2 S R b n s) n
theorem mX1_t {S : jS} {R : Nat → Int32} {b : Bool} {s e : Nat} {c : Int32} (h : mX0 S R b s e = true) : mX1 S R b s c (e + 1) = mX1 S R b s c e + 1 := if_pos h
theorem mX1_f {S : jS} {R : Nat → Int32} {b : Bool} {s e : Nat} {c : Int32} (h : mX0 S R b s e = false) : mX1 S R b s c (e + 1) = mX1 S R b s c e := if_neg (by rw [h]; decide)
section Q6
variable {l : Launch} {D : va_G} {ad : Nat → Nat} {tc : Nat → ClassId} {L : Nat} {xs : Nat → Int32} {S : jS} {E : List j_C} {sl x : Nat}
set_option maxRecDepth 20000 in
theorem lp_tf {n nr nc nk : Nat} {v : Int32} (hT : Told S n nr nc nk) : ∀ m k : Nat, k + m = n → Rn l D ad tc L xs mX1_timesFeed 0 0 4 [(3, .int (nI k)), (2, .int (mTf S v k)), (0, .ref 2), (1, .int v)] [] (wd S E, sl) (some (.int (mTf S v n))) (wd S E, sl) := by
  obtain ⟨⟨hN, hn⟩, -, -, -, hv, -, -, hK, -, -⟩ := id hT
  intro m
  induction m with
  | zero =>
    intro k hk
    have hk' : n = k := by omega
    subst hk'
    have hN1 := hN
    refine rn_iload_n dX1_timesFeed_4 rfl ?_
    refine rn_aload_n dX1_timesFeed_5 rfl ?_
    refine rn_getfield dX1_timesFeed_6 fo_X1_48 h_chip rfl ?_
    refine rn_topi hN1 ?_
    refine rn_icmp_ge (tgt := 58) dX1_timesFeed_9 rfl (fun _ => ?_) (fun q1 => absurd (by exact Int32.le_refl _) q1)
    refine rn_iload_n dX1_timesFeed_58 rfl ?_
    exact rn_ret dX1_timesFeed_59 trivial rfl
  | succ m ih =>
    intro k hk
    have hN1 := hN
    have ih := ih (k + 1) (by omega)
    have KJ : Rn l D ad tc L xs mX1_timesFeed 0 0 52 [(3, .int (nI k)), (2, .int (mTf S v (k + 1))), (0, .ref 2), (1, .int v)] [] (wd S E, sl) (some (.int (mTf S v n))) (wd S E, sl) := by
      refine rn_iinc dX1_timesFeed_52 rfl (nI_1 _) (by decide) rfl ?_
      refine rn_goto (tgt := 4) dX1_timesFeed_55 rfl ?_
      exact rn_subg rfl ih

    refine rn_iload_n dX1_timesFeed_4 rfl ?_
    refine rn_aload_n dX1_timesFeed_5 rfl ?_
    refine rn_getfield dX1_timesFeed_6 fo_X1_48 h_chip rfl ?_
    refine rn_topi hN1 ?_
    refine rn_icmp_ge (tgt := 58) dX1_timesFeed_9 rfl (fun q1 => absurd q1 (by rw [Int32.le_iff_toInt_le, nI_toInt (by omega), nI_toInt (by omega)] at q1; omega)) (fun _ => ?_)
    refine rn_iload_n dX1_timesFeed_12 rfl ?_
    refine rn_aload_n dX1_timesFeed_13 rfl ?_
    refine rn_getfield dX1_timesFeed_14 fo_X1_25 h_chip rfl ?_
    refine rn_iload_n dX1_timesFeed_17 rfl ?_
    refine rn_aaload dX1_timesFeed_18 h_nodes rfl (vp_in_nI (by omega) (by decide)) (refs_at rfl (by omega) (by decide)) ?_
    refine rn_getfield dX1_timesFeed_19 fo_X1_78 (h_node (by omega)) rfl ?_
    refine rn_iload_n dX1_timesFeed_22 rfl ?_
    refine rn_icmp_ne (tgt := 30) dX1_timesFeed_23 rfl (fun q2 => ?_) (fun q2 => ?_)
    · have a1 : (if fe1 S k = v then (1 : Int32) else 0) = 0 := if_neg q2
      refine rn_iconst (v := 0) dX1_timesFeed_30 rfl ?_
      refine rn_aload_n dX1_timesFeed_31 rfl ?_
      refine rn_getfield dX1_timesFeed_32 fo_X1_25 h_chip rfl ?_
      refine rn_iload_n dX1_timesFeed_35 rfl ?_
      refine rn_aaload dX1_timesFeed_36 h_nodes rfl (vp_in_nI (by omega) (by decide)) (refs_at rfl (by omega) (by decide)) ?_
      refine rn_getfield dX1_timesFeed_37 fo_X1_81 (h_node (by omega)) rfl ?_
      refine rn_iload_n dX1_timesFeed_40 rfl ?_
      refine rn_icmp_ne (tgt := 48) dX1_timesFeed_41 rfl (fun q3 => ?_) (fun q3 => ?_)
      · have a2 : (if fe2 S k = v then (1 : Int32) else 0) = 0 := if_neg q3
        refine rn_iconst (v := nI 0) dX1_timesFeed_48 (by decide) ?_
        refine rn_iadd dX1_timesFeed_49 ?_
        refine rn_topi (nI_add _ _) ?_
        refine rn_iadd dX1_timesFeed_50 ?_
        refine rn_istore_n dX1_timesFeed_51 (by decide) rfl ?_
        rw [show mTf S v (k + 1) = mTf S v k + ((if fe1 S k = v then (1 : Int32) else 0) + (if fe2 S k = v then (1 : Int32) else 0)) from rfl, a1, a2] at KJ
        exact rn_subg rfl KJ
      · have a2 : (if fe2 S k = v then (1 : Int32) else 0) = 1 := if_pos q3
        refine rn_iconst (v := 1) dX1_timesFeed_44 rfl ?_
        refine rn_goto (tgt := 49) dX1_timesFeed_45 rfl ?_
        refine rn_iadd dX1_timesFeed_49 ?_
        refine rn_topi (nI_add _ _) ?_
        refine rn_iadd dX1_timesFeed_50 ?_
        refine rn_istore_n dX1_timesFeed_51 (by decide) rfl ?_
        rw [show mTf S v (k + 1) = mTf S v k + ((if fe1 S k = v then (1 : Int32) else 0) + (if fe2 S k = v then (1 : Int32) else 0)) from rfl, a1, a2] at KJ
        exact rn_subg rfl KJ
    · have a1 : (if fe1 S k = v then (1 : Int32) else 0) = 1 := if_pos q2
      refine rn_iconst (v := 1) dX1_timesFeed_26 rfl ?_
      refine rn_goto (tgt := 31) dX1_timesFeed_27 rfl ?_
      refine rn_aload_n dX1_timesFeed_31 rfl ?_
      refine rn_getfield dX1_timesFeed_32 fo_X1_25 h_chip rfl ?_
      refine rn_iload_n dX1_timesFeed_35 rfl ?_
      refine rn_aaload dX1_timesFeed_36 h_nodes rfl (vp_in_nI (by omega) (by decide)) (refs_at rfl (by omega) (by decide)) ?_
      refine rn_getfield dX1_timesFeed_37 fo_X1_81 (h_node (by omega)) rfl ?_
      refine rn_iload_n dX1_timesFeed_40 rfl ?_
      refine rn_icmp_ne (tgt := 48) dX1_timesFeed_41 rfl (fun q4 => ?_) (fun q4 => ?_)
      · have a2 : (if fe2 S k = v then (1 : Int32) else 0) = 0 := if_neg q4
        refine rn_iconst (v := nI 0) dX1_timesFeed_48 (by decide) ?_
        refine rn_iadd dX1_timesFeed_49 ?_
        refine rn_topi (nI_add _ _) ?_
        refine rn_iadd dX1_timesFeed_50 ?_
        refine rn_istore_n dX1_timesFeed_51 (by decide) rfl ?_
        rw [show mTf S v (k + 1) = mTf S v k + ((if fe1 S k = v then (1 : Int32) else 0) + (if fe2 S k = v then (1 : Int32) else 0)) from rfl, a1, a2] at KJ
        exact rn_subg rfl KJ
      · have a2 : (if fe2 S k = v then (1 : Int32) else 0) = 1 := if_pos q4
        refine rn_iconst (v := 1) dX1_timesFeed_44 rfl ?_
        refine rn_goto (tgt := 49) dX1_timesFeed_45 rfl ?_
        refine rn_iadd dX1_timesFeed_49 ?_
        refine rn_topi (nI_add _ _) ?_
        refine rn_iadd dX1_timesFeed_50 ?_
        refine rn_istore_n dX1_timesFeed_51 (by decide) rfl ?_
        rw [show mTf S v (k + 1) = mTf S v k + ((if fe1 S k = v then (1 : Int32) else 0) + (if fe2 S k = v then (1 : Int32) else 0)) from rfl, a1, a2] at KJ
        exact rn_subg rfl KJ
set_option maxRecDepth 20000 in
theorem c_X1_timesFeed {n nr nc nk : Nat} {v : Int32} (hT : Told S n nr nc nk) : Cn l D ad tc L xs mX1_timesFeed 0 0 [.ref 2, .int v] (wd S E, sl) (some (.int (mTf S v n))) (wd S E, sl) := by
  refine cn_of (lv0 := [(0, .ref 2), (1, .int v)]) (by decide +kernel) ⟨_, rfl, rfl⟩ (fun _ => by simp [lg_sl, j_v, Value.category]) (fun _ => rfl) ?_
  refine rn_iconst (v := 0) dX1_timesFeed_0 rfl ?_
  refine rn_istore_n dX1_timesFeed_1 (by decide) rfl ?_
  refine rn_iconst (v := 0) dX1_timesFeed_2 rfl ?_
  refine rn_istore_n dX1_timesFeed_3 (by decide) rfl ?_
  exact rn_subg rfl (lp_tf hT n 0 (by omega))
set_option maxRecDepth 20000 in
theorem c_X6_isSafe {s e : Nat} (hs : s < 16) (he : e < 16) : Cn l D ad tc L xs mX6_isSafe 0 0 [.ref 39, .int (nI s), .int (nI e)] (wd S E, sl) (some (.int (bI (mSf S s e)))) (wd S E, sl) := by
  refine cn_of (lv0 := [(0, .ref 39), (1, .int (nI s)), (2, .int (nI e))]) (by decide +kernel) ⟨_, rfl, bI_nar _⟩ (fun _ => by simp [lg_sl, j_v, Value.category]) (fun _ => rfl) ?_
  refine rn_aload_n dX6_isSafe_0 rfl ?_
  refine rn_getfield dX6_isSafe_1 fo_X6_24 h_paths rfl ?_
  refine rn_getfield dX6_isSafe_4 fo_X6_38 h_chip rfl ?_
  refine rn_iload_n dX6_isSafe_7 rfl ?_
  refine rn_aaload dX6_isSafe_8 h_nodes rfl (vp_in_nI (by omega) (by decide)) (refs_at rfl (by omega) (by decide)) ?_
  refine rn_getfield dX6_isSafe_9 fo_X6_108 (h_node (by omega)) rfl ?_
  refine rn_bipush (v := 6) dX6_isSafe_12 rfl ?_
  refine rn_icmp_ne (tgt := 54) dX6_isSafe_14 rfl (fun q1 => ?_) (fun q1 => ?_)
  · refine rn_iconst (v := 0) dX6_isSafe_54 rfl ?_
    exact rn_ret dX6_isSafe_55 trivial (by rw [show mSf S s e = false from decide_eq_false (fun z => q1 z.1)]; rfl)
  · refine rn_aload_n dX6_isSafe_17 rfl ?_
    refine rn_getfield dX6_isSafe_18 fo_X6_24 h_paths rfl ?_
    refine rn_getfield dX6_isSafe_21 fo_X6_38 h_chip rfl ?_
    refine rn_iload_n dX6_isSafe_24 rfl ?_
    refine rn_aaload dX6_isSafe_25 h_nodes rfl (vp_in_nI (by omega) (by decide)) (refs_at rfl (by omega) (by decide)) ?_
    refine rn_getfield dX6_isSafe_26 fo_X6_108 (h_node (by omega)) rfl ?_
    refine rn_bipush (v := 6) dX6_isSafe_29 rfl ?_
    refine rn_icmp_ne (tgt := 54) dX6_isSafe_31 rfl (fun q2 => ?_) (fun q2 => ?_)
    · refine rn_iconst (v := 0) dX6_isSafe_54 rfl ?_
      exact rn_ret dX6_isSafe_55 trivial (by rw [show mSf S s e = false from decide_eq_false (fun z => q2 z.2.1)]; rfl)
    · refine rn_aload_n dX6_isSafe_34 rfl ?_
      refine rn_getfield dX6_isSafe_35 fo_X6_24 h_paths rfl ?_
      refine rn_getfield dX6_isSafe_38 fo_X6_38 h_chip rfl ?_
      refine rn_iload_n dX6_isSafe_41 rfl ?_
      refine rn_aaload dX6_isSafe_42 h_nodes rfl (vp_in_nI (by omega) (by decide)) (refs_at rfl (by omega) (by decide)) ?_
      refine rn_getfield dX6_isSafe_43 fo_X6_51 (h_node (by omega)) rfl ?_
      refine rn_iload_n dX6_isSafe_46 rfl ?_
      refine rn_icmp_ne (tgt := 54) dX6_isSafe_47 rfl (fun q3 => ?_) (fun q3 => ?_)
      · refine rn_iconst (v := 0) dX6_isSafe_54 rfl ?_
        exact rn_ret dX6_isSafe_55 trivial (by rw [show mSf S s e = false from decide_eq_false (fun z => q3 z.2.2)]; rfl)
      · refine rn_iconst (v := 1) dX6_isSafe_50 rfl ?_
        refine rn_goto (tgt := 55) dX6_isSafe_51 rfl ?_
        exact rn_ret dX6_isSafe_55 trivial (by rw [show mSf S s e = true from decide_eq_true ⟨q1, q2, q3⟩]; rfl)
set_option maxRecDepth 20000 in
theorem lp_xi {n nr nc nk : Nat} {b : Bool} (hT : Told S n nr nc nk) {s : Nat} {cn : Int32} {r : Option Value} {h' : j_H} (hs : s < n) (K : Rn l D ad tc L xs mX6_crossings 2 45 76 [(3, .int (nI s)), (2, .int (mX1 S (sA S 39) b s cn n)), (0, .ref 39), (1, .int (bI b))] [] (wd S E, sl) r h') : ∀ m k : Nat, k + m = n → Rn l D ad tc L xs mX6_crossings 2 45 18 [(4, .int (nI k)), (3, .int (nI s)), (2, .int (mX1 S (sA S 39) b s cn k)), (0, .ref 39), (1, .int (bI b))] [] (wd S E, sl) r h' := by
  obtain ⟨⟨hN, hn⟩, -, -, -, hv, hf, -, hK, -, -⟩ := id hT
  intro m
  induction m with
  | zero =>
    intro k hk
    have hk' : n = k := by omega
    subst hk'
    have hN1 := hN
    refine rn_iload dX6_crossings_18 rfl ?_
    refine rn_aload_n dX6_crossings_20 rfl ?_
    refine rn_getfield dX6_crossings_21 fo_X6_24 h_paths rfl ?_
    refine rn_getfield dX6_crossings_24 fo_X6_32 h_chip rfl ?_
    refine rn_topi hN1 ?_
    refine rn_icmp_ge (tgt := 76) dX6_crossings_27 rfl (fun _ => ?_) (fun q1 => absurd (by exact Int32.le_refl _) q1)
    exact rn_subg rfl K
  | succ m ih =>
    intro k hk
    have hN1 := hN
    have ih := ih (k + 1) (by omega)
    have KJ : Rn l D ad tc L xs mX6_crossings 2 45 70 [(4, .int (nI k)), (3, .int (nI s)), (2, .int (mX1 S (sA S 39) b s cn (k + 1))), (0, .ref 39), (1, .int (bI b))] [] (wd S E, sl) r h' := by
      refine rn_iinc dX6_crossings_70 rfl (nI_1 _) (by decide) rfl ?_
      refine rn_goto (tgt := 18) dX6_crossings_73 rfl ?_
      exact rn_subg rfl ih

    refine rn_iload dX6_crossings_18 rfl ?_
    refine rn_aload_n dX6_crossings_20 rfl ?_
    refine rn_getfield dX6_crossings_21 fo_X6_24 h_paths rfl ?_
    refine rn_getfield dX6_crossings_24 fo_X6_32 h_chip rfl ?_
    refine rn_topi hN1 ?_
    refine rn_icmp_ge (tgt := 76) dX6_crossings_27 rfl (fun q1 => absurd q1 (by rw [Int32.le_iff_toInt_le, nI_toInt (by omega), nI_toInt (by omega)] at q1; omega)) (fun _ => ?_)
    refine rn_aload_n dX6_crossings_30 rfl ?_
    refine rn_iload_n dX6_crossings_31 rfl ?_
    refine rn_iload dX6_crossings_32 rfl ?_
    refine rn_callV dX6_crossings_34 cv_X6_69 (c_X6_comesTo hn (by omega) (hf k (by omega)).2.1) rfl h_paths rfl rfl (by decide) (by decide) rfl (Nat.le_of_ble_eq_true rfl) ?_
    refine rn_if_eq (tgt := 70) dX6_crossings_37 rfl (fun q2 => ?_) (fun q2 => ?_)
    · rw [bI_0] at q2
      rw [mX1_f (by unfold mX0; rw [q2]; rfl)] at KJ
      exact rn_subg rfl KJ
    · rw [bI_n] at q2
      have x1 := q2
      refine rn_aload_n dX6_crossings_40 rfl ?_
      refine rn_getfield dX6_crossings_41 fo_X6_24 h_paths rfl ?_
      refine rn_iload_n dX6_crossings_44 rfl ?_
      refine rn_iload dX6_crossings_45 rfl ?_
      refine rn_callV dX6_crossings_47 cv_X6_73 (c_X1_isOneGroup (by omega) (by omega) hv) rfl h_chip rfl rfl (by decide) (by decide) rfl (Nat.le_of_ble_eq_true rfl) ?_
      refine rn_if_ne (tgt := 70) dX6_crossings_50 rfl (fun q3 => ?_) (fun q3 => ?_)
      · rw [bI_n] at q3
        replace q3 : mGrp S s k = true := q3
        rw [mX1_f (by unfold mX0; rw [x1, q3]; rfl)] at KJ
        exact rn_subg rfl KJ
      · rw [bI_0] at q3
        have x2 : mGrp S s k = false := q3
        refine rn_iload_n dX6_crossings_53 rfl ?_
        refine rn_if_eq (tgt := 67) dX6_crossings_54 rfl (fun q4 => ?_) (fun q4 => ?_)
        · rw [bI_0] at q4
          rw [mX1_t (by unfold mX0; rw [x1, x2, q4]; rfl)] at KJ
          refine rn_iinc dX6_crossings_67 rfl rfl (by decide) rfl ?_
          exact rn_subg rfl KJ
        · rw [bI_n] at q4
          have x3 := q4
          refine rn_aload_n dX6_crossings_57 rfl ?_
          refine rn_iload_n dX6_crossings_58 rfl ?_
          refine rn_iload dX6_crossings_59 rfl ?_
          refine rn_callV dX6_crossings_61 cv_X6_105 (c_X6_isSafe (by omega) (by omega)) rfl h_paths rfl rfl (by decide) (by decide) rfl (Nat.le_of_ble_eq_true rfl) ?_
          refine rn_if_eq (tgt := 70) dX6_crossings_64 rfl (fun q5 => ?_) (fun q5 => ?_)
          · rw [bI_0] at q5
            rw [mX1_f (by unfold mX0; rw [x1, x2, x3, q5]; rfl)] at KJ
            exact rn_subg rfl KJ
          · rw [bI_n] at q5
            rw [mX1_t (by unfold mX0; rw [x1, x2, x3, q5]; rfl)] at KJ
            refine rn_iinc dX6_crossings_67 rfl rfl (by decide) rfl ?_
            exact rn_subg rfl KJ
set_option maxRecDepth 20000 in
theorem lp_xo {n nr nc nk : Nat} {b : Bool} (hT : Told S n nr nc nk) : ∀ m k : Nat, k + m = n → Rn l D ad tc L xs mX6_crossings 2 45 4 [(3, .int (nI k)), (2, .int (mX2 S (sA S 39) b n k)), (0, .ref 39), (1, .int (bI b))] [] (wd S E, sl) (some (.int (mX2 S (sA S 39) b n n))) (wd S E, sl) := by
  obtain ⟨⟨hN, hn⟩, -, -, -, hv, hf, -, hK, -, -⟩ := id hT
  intro m
  induction m with
  | zero =>
    intro k hk
    have hk' : n = k := by omega
    subst hk'
    have hN1 := hN
    refine rn_iload_n dX6_crossings_4 rfl ?_
    refine rn_aload_n dX6_crossings_5 rfl ?_
    refine rn_getfield dX6_crossings_6 fo_X6_24 h_paths rfl ?_
    refine rn_getfield dX6_crossings_9 fo_X6_32 h_chip rfl ?_
    refine rn_topi hN1 ?_
    refine rn_icmp_ge (tgt := 82) dX6_crossings_12 rfl (fun _ => ?_) (fun q1 => absurd (by exact Int32.le_refl _) q1)
    refine rn_iload_n dX6_crossings_82 rfl ?_
    exact rn_ret dX6_crossings_83 trivial rfl
  | succ m ih =>
    intro k hk
    have hN1 := hN
    have ih := ih (k + 1) (by omega)
    have KJ : Rn l D ad tc L xs mX6_crossings 2 45 76 [(3, .int (nI k)), (2, .int (mX2 S (sA S 39) b n (k + 1))), (0, .ref 39), (1, .int (bI b))] [] (wd S E, sl) (some (.int (mX2 S (sA S 39) b n n))) (wd S E, sl) := by
      refine rn_iinc dX6_crossings_76 rfl (nI_1 _) (by decide) rfl ?_
      refine rn_goto (tgt := 4) dX6_crossings_79 rfl ?_
      exact rn_subg rfl ih

    refine rn_iload_n dX6_crossings_4 rfl ?_
    refine rn_aload_n dX6_crossings_5 rfl ?_
    refine rn_getfield dX6_crossings_6 fo_X6_24 h_paths rfl ?_
    refine rn_getfield dX6_crossings_9 fo_X6_32 h_chip rfl ?_
    refine rn_topi hN1 ?_
    refine rn_icmp_ge (tgt := 82) dX6_crossings_12 rfl (fun q1 => absurd q1 (by rw [Int32.le_iff_toInt_le, nI_toInt (by omega), nI_toInt (by omega)] at q1; omega)) (fun _ => ?_)
    refine rn_iconst (v := 0) dX6_crossings_15 rfl ?_
    refine rn_istore dX6_crossings_16 (by decide) rfl ?_
    exact rn_subg (lv' := [(4, .int (nI 0)), (3, .int (nI k)), (2, .int (mX1 S (sA S 39) b k (mX2 S (sA S 39) b n k) 0)), (0, .ref 39), (1, .int (bI b))]) rfl (lp_xi hT (by omega) KJ n 0 (by omega))
set_option maxRecDepth 20000 in
theorem c_X6_crossings {n nr nc nk : Nat} {b : Bool} (hT : Told S n nr nc nk) : Cn l D ad tc L xs mX6_crossings 2 45 [.ref 39, .int (bI b)] (wd S E, sl) (some (.int (mX2 S (sA S 39) b n n))) (wd S E, sl) := by
  refine cn_of (lv0 := [(0, .ref 39), (1, .int (bI b))]) (by decide +kernel) ⟨_, rfl, rfl⟩ (fun _ => by simp [lg_sl, j_v, Value.category]) (fun _ => rfl) ?_
  refine rn_iconst (v := 0) dX6_crossings_0 rfl ?_
  refine rn_istore_n dX6_crossings_1 (by decide) rfl ?_
  refine rn_iconst (v := 0) dX6_crossings_2 rfl ?_
  refine rn_istore_n dX6_crossings_3 (by decide) rfl ?_
  exact rn_subg rfl (lp_xo hT n 0 (by omega))
def ush (x k : Int32) : Int32 := (x.toUInt32 >>> (k.toUInt32 &&& Int32.toUInt32 31)).toInt32
def bc1 (x : Int32) : Int32 := x - (ush x 1 &&& 1431655765)
def bc2 (x : Int32) : Int32 := (x &&& 858993459) + (ush x 2 &&& 858993459)
def bc3 (x : Int32) : Int32 := (x + ush x 4) &&& 252645135
def mBc (x : Int32) : Int32 := ((bc3 (bc2 (bc1 x)) + ush (bc3 (bc2 (bc1 x))) 8) + ush (bc3 (bc2 (bc1 x)) + ush (bc3 (bc2 (bc1 x))) 8) 16) &&& 63
def mCp (S : jS) : Nat → Int32
  | 0 => 0
  | e + 1 => mCp S e + mBc (sA S 40 e)
set_option maxRecDepth 20000 in
theorem c_bitCount {v : Int32} : Cn l D ad tc L xs mJ6_bitCount_0f7a4 0 0 [.int v] (wd S E, sl) (some (.int (mBc v))) (wd S E, sl) := by
  refine cn_of (lv0 := [(0, .int v)]) (by decide +kernel) ⟨_, rfl, rfl⟩ (fun _ => by simp [lg_sl, j_v, Value.category]) (fun _ => rfl) ?_
  refine rn_iload_n dJ6_bitCount_0f7a4_0 rfl ?_
  refine rn_iload_n dJ6_bitCount_0f7a4_1 rfl ?_
  refine rn_iconst (v := 1) dJ6_bitCount_0f7a4_2 rfl ?_
  refine rn_iushr dJ6_bitCount_0f7a4_3 rfl ?_
  refine rn_ldcw dJ6_bitCount_0f7a4_4 wd_643 ?_
  refine rn_iand dJ6_bitCount_0f7a4_7 ?_
  refine rn_isub dJ6_bitCount_0f7a4_8 ?_
  refine rn_istore_n dJ6_bitCount_0f7a4_9 (by decide) rfl ?_
  refine rn_iload_n dJ6_bitCount_0f7a4_10 rfl ?_
  refine rn_ldcw dJ6_bitCount_0f7a4_11 wd_644 ?_
  refine rn_iand dJ6_bitCount_0f7a4_14 ?_
  refine rn_iload_n dJ6_bitCount_0f7a4_15 rfl ?_
  refine rn_iconst (v := 2) dJ6_bitCount_0f7a4_16 rfl ?_
  refine rn_iushr dJ6_bitCount_0f7a4_17 rfl ?_
  refine rn_ldcw dJ6_bitCount_0f7a4_18 wd_644 ?_
  refine rn_iand dJ6_bitCount_0f7a4_21 ?_
  refine rn_iadd dJ6_bitCount_0f7a4_22 ?_
  refine rn_istore_n dJ6_bitCount_0f7a4_23 (by decide) rfl ?_
  refine rn_iload_n dJ6_bitCount_0f7a4_24 rfl ?_
  refine rn_iload_n dJ6_bitCount_0f7a4_25 rfl ?_
  refine rn_iconst (v := 4) dJ6_bitCount_0f7a4_26 rfl ?_
  refine rn_iushr dJ6_bitCount_0f7a4_27 rfl ?_
  refine rn_iadd dJ6_bitCount_0f7a4_28 ?_
  refine rn_ldcw dJ6_bitCount_0f7a4_29 wd_645 ?_
  refine rn_iand dJ6_bitCount_0f7a4_32 ?_
  refine rn_istore_n dJ6_bitCount_0f7a4_33 (by decide) rfl ?_
  refine rn_iload_n dJ6_bitCount_0f7a4_34 rfl ?_
  refine rn_iload_n dJ6_bitCount_0f7a4_35 rfl ?_
  refine rn_bipush (v := 8) dJ6_bitCount_0f7a4_36 rfl ?_
  refine rn_iushr dJ6_bitCount_0f7a4_38 rfl ?_
  refine rn_iadd dJ6_bitCount_0f7a4_39 ?_
  refine rn_istore_n dJ6_bitCount_0f7a4_40 (by decide) rfl ?_
  refine rn_iload_n dJ6_bitCount_0f7a4_41 rfl ?_
  refine rn_iload_n dJ6_bitCount_0f7a4_42 rfl ?_
  refine rn_bipush (v := 16) dJ6_bitCount_0f7a4_43 rfl ?_
  refine rn_iushr dJ6_bitCount_0f7a4_45 rfl ?_
  refine rn_iadd dJ6_bitCount_0f7a4_46 ?_
  refine rn_istore_n dJ6_bitCount_0f7a4_47 (by decide) rfl ?_
  refine rn_iload_n dJ6_bitCount_0f7a4_48 rfl ?_
  refine rn_bipush (v := 63) dJ6_bitCount_0f7a4_49 rfl ?_
  refine rn_iand dJ6_bitCount_0f7a4_51 ?_
  exact rn_ret dJ6_bitCount_0f7a4_52 trivial rfl
set_option maxRecDepth 20000 in
theorem lp_cp {n nr nc nk : Nat} (hT : Told S n nr nc nk) : ∀ m k : Nat, k + m = n → Rn l D ad tc L xs mX6_checkedPairs 1 20 4 [(2, .int (nI k)), (1, .int (mCp S k)), (0, .ref 39)] [] (wd S E, sl) (some (.int (mCp S n))) (wd S E, sl) := by
  obtain ⟨⟨hN, hn⟩, -, -, -, hv, hf, -, hK, -, -⟩ := id hT
  intro m
  induction m with
  | zero =>
    intro k hk
    have hk' : n = k := by omega
    subst hk'
    have hN1 := hN
    refine rn_iload_n dX6_checkedPairs_4 rfl ?_
    refine rn_aload_n dX6_checkedPairs_5 rfl ?_
    refine rn_getfield dX6_checkedPairs_6 fo_X6_24 h_paths rfl ?_
    refine rn_getfield dX6_checkedPairs_9 fo_X6_32 h_chip rfl ?_
    refine rn_topi hN1 ?_
    refine rn_icmp_ge (tgt := 33) dX6_checkedPairs_12 rfl (fun _ => ?_) (fun q1 => absurd (by exact Int32.le_refl _) q1)
    refine rn_iload_n dX6_checkedPairs_33 rfl ?_
    exact rn_ret dX6_checkedPairs_34 trivial rfl
  | succ m ih =>
    intro k hk
    have hN1 := hN
    have ih := ih (k + 1) (by omega)
    have KJ : Rn l D ad tc L xs mX6_checkedPairs 1 20 27 [(2, .int (nI k)), (1, .int (mCp S (k + 1))), (0, .ref 39)] [] (wd S E, sl) (some (.int (mCp S n))) (wd S E, sl) := by
      refine rn_iinc dX6_checkedPairs_27 rfl (nI_1 _) (by decide) rfl ?_
      refine rn_goto (tgt := 4) dX6_checkedPairs_30 rfl ?_
      exact rn_subg rfl ih

    refine rn_iload_n dX6_checkedPairs_4 rfl ?_
    refine rn_aload_n dX6_checkedPairs_5 rfl ?_
    refine rn_getfield dX6_checkedPairs_6 fo_X6_24 h_paths rfl ?_
    refine rn_getfield dX6_checkedPairs_9 fo_X6_32 h_chip rfl ?_
    refine rn_topi hN1 ?_
    refine rn_icmp_ge (tgt := 33) dX6_checkedPairs_12 rfl (fun q1 => absurd q1 (by rw [Int32.le_iff_toInt_le, nI_toInt (by omega), nI_toInt (by omega)] at q1; omega)) (fun _ => ?_)
    refine rn_iload_n dX6_checkedPairs_15 rfl ?_
    refine rn_aload_n dX6_checkedPairs_16 rfl ?_
    refine rn_getfield dX6_checkedPairs_17 fo_X6_15 h_paths rfl ?_
    refine rn_iload_n dX6_checkedPairs_20 rfl ?_
    refine rn_iaload dX6_checkedPairs_21 h_checked rfl (vp_in_nI (by omega) (by decide)) ?_
    rw [nI_clamp (by omega)]
    refine rn_callS dX6_checkedPairs_22 cs_X6_99 c_bitCount rfl (by decide) (by decide) rfl (Nat.le_of_ble_eq_true rfl) ?_
    refine rn_iadd dX6_checkedPairs_25 ?_
    refine rn_istore_n dX6_checkedPairs_26 (by decide) rfl ?_
    exact rn_subg rfl KJ
set_option maxRecDepth 20000 in
theorem c_X6_checkedPairs {n nr nc nk : Nat} (hT : Told S n nr nc nk) : Cn l D ad tc L xs mX6_checkedPairs 1 20 [.ref 39] (wd S E, sl) (some (.int (mCp S n))) (wd S E, sl) := by
  refine cn_of (lv0 := [(0, .ref 39)]) (by decide +kernel) ⟨_, rfl, rfl⟩ (fun _ => by simp [lg_sl, j_v, Value.category]) (fun _ => rfl) ?_
  refine rn_iconst (v := 0) dX6_checkedPairs_0 rfl ?_
  refine rn_istore_n dX6_checkedPairs_1 (by decide) rfl ?_
  refine rn_iconst (v := 0) dX6_checkedPairs_2 rfl ?_
  refine rn_istore_n dX6_checkedPairs_3 (by decide) rfl ?_
  exact rn_subg rfl (lp_cp hT n 0 (by omega))
end Q6
