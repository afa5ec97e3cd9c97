/-! Paths and the chip: who comes where, who wins, the gap -/
section P2
variable {l : Launch} {D : va_G} {ad : Nat → Nat} {tc : Nat → ClassId} {L : Nat} {xs : Nat → Int32} {S : jS} {E : List j_C} {sl : Nat}
set_option maxRecDepth 20000 in
theorem c_X6_comesTo {n s e : Nat} (hn : n ≤ 16) (he : e < n) (hf : fe1 S e = -1 ∨ ∃ a, a < n ∧ fe1 S e = nI a) : Cn l D ad tc L xs mX6_comesTo 1 22 [.ref 39, .int (nI s), .int (nI e)] (wd S E, sl) (some (.int (bI (mCome S (sA S 39) s e)))) (wd S E, sl) := by
  refine cn_of (lv0 := [(0, .ref 39), (1, .int (nI s)), (2, .int (nI e))]) (by decide +kernel) ⟨_, rfl, bI_nar _⟩ (fun _ => by simp [lg_sl, j_v, Value.category]) (fun _ => rfl) ?_
  refine rn_aload_n dX6_comesTo_0 rfl ?_
  refine rn_getfield dX6_comesTo_1 fo_X6_24 h_paths rfl ?_
  refine rn_getfield dX6_comesTo_4 fo_X6_38 h_chip rfl ?_
  refine rn_iload_n dX6_comesTo_7 rfl ?_
  refine rn_aaload dX6_comesTo_8 h_nodes rfl (vp_in_nI (by omega) (by decide)) (refs_at rfl (by omega) (by decide)) ?_
  refine rn_getfield dX6_comesTo_9 fo_X6_51 (h_node (by omega)) rfl ?_
  refine rn_istore_n dX6_comesTo_12 (by decide) rfl ?_
  refine rn_aload_n dX6_comesTo_13 rfl ?_
  refine rn_getfield dX6_comesTo_14 fo_X6_24 h_paths rfl ?_
  refine rn_getfield dX6_comesTo_17 fo_X6_38 h_chip rfl ?_
  refine rn_iload_n dX6_comesTo_20 rfl ?_
  refine rn_aaload dX6_comesTo_21 h_nodes rfl (vp_in_nI (by omega) (by decide)) (refs_at rfl (by omega) (by decide)) ?_
  refine rn_callV dX6_comesTo_22 cv_X6_93 (c_X5_isEndKind (by omega)) rfl (h_node (by omega)) rfl rfl (by decide) (by decide) rfl (Nat.le_of_ble_eq_true rfl) ?_
  refine rn_if_eq (tgt := 46) dX6_comesTo_25 rfl (fun q1 => ?_) (fun q1 => ?_)
  · refine rn_iconst (v := 0) dX6_comesTo_46 rfl ?_
    exact rn_ret dX6_comesTo_47 trivial (by simp_all [bI, mCome, bitR, enB, fe1] <;> grind)
  · refine rn_iload_n dX6_comesTo_28 rfl ?_
    refine rn_iconst (v := (-1)) dX6_comesTo_29 rfl ?_
    refine rn_icmp_eq (tgt := 46) dX6_comesTo_30 rfl (fun q2 => ?_) (fun q2 => ?_)
    · refine rn_iconst (v := 0) dX6_comesTo_46 rfl ?_
      exact rn_ret dX6_comesTo_47 trivial (by simp_all [bI, mCome, bitR, enB, fe1] <;> grind)
    · obtain ⟨a, ha, hfa⟩ := hf.resolve_left q2
      have hcl : (nI a).toNatClampNeg = a := nI_clamp (by omega)
      rw [show sI S (e + 13) 1 = nI a from hfa]
      refine rn_aload_n dX6_comesTo_33 rfl ?_
      refine rn_iload_n dX6_comesTo_34 rfl ?_
      refine rn_iload_n dX6_comesTo_35 rfl ?_
      refine rn_callV dX6_comesTo_36 cv_X6_96 (c_X6_reaches (by omega)) rfl h_paths rfl rfl (by decide) (by decide) rfl (Nat.le_of_ble_eq_true rfl) ?_
      refine rn_if_eq (tgt := 46) dX6_comesTo_39 rfl (fun q3 => ?_) (fun q3 => ?_)
      · refine rn_iconst (v := 0) dX6_comesTo_46 rfl ?_
        exact rn_ret dX6_comesTo_47 trivial (by simp_all [bI, mCome, bitR, enB, fe1] <;> grind)
      · refine rn_iconst (v := 1) dX6_comesTo_42 rfl ?_
        refine rn_goto (tgt := 47) dX6_comesTo_43 rfl ?_
        exact rn_ret dX6_comesTo_47 trivial (by simp_all [bI, mCome, bitR, enB, fe1] <;> grind)
set_option maxRecDepth 20000 in
theorem lp_X1_winnerOf {s e nr : Nat} (hR : sI S 1 7 = nI nr) (hr : nr ≤ 6) : ∀ j k : Nat, k + j = nr → Rn l D ad tc L xs mX1_winnerOf 1 22 8 [(5, .int (nI k)), (4, .int (mWin S (nI s) (nI e) k).2), (3, .int (mWin S (nI s) (nI e) k).1), (0, .ref 2), (1, .int (nI s)), (2, .int (nI e))] [] (wd S E, sl) (some (.int (mWin S (nI s) (nI e) nr).1)) (wd S E, sl) := by
  intro j
  induction j with
  | zero =>
    intro k hk
    have hk' : k = nr := by omega
    subst hk'
    refine rn_iload dX1_winnerOf_8 rfl ?_
    refine rn_aload_n dX1_winnerOf_10 rfl ?_
    refine rn_getfield dX1_winnerOf_11 fo_X1_95 h_chip rfl ?_
    rw [hR]
    refine rn_icmp_ge (tgt := 68) dX1_winnerOf_14 rfl (fun _ => ?_) (fun q1 => absurd (by exact Int32.le_refl _) q1)
    refine rn_iload_n dX1_winnerOf_68 rfl ?_
    exact rn_ret dX1_winnerOf_69 trivial rfl
  | succ j ih =>
    intro k hk
    refine rn_iload dX1_winnerOf_8 rfl ?_
    refine rn_aload_n dX1_winnerOf_10 rfl ?_
    refine rn_getfield dX1_winnerOf_11 fo_X1_95 h_chip rfl ?_
    rw [hR]
    refine rn_icmp_ge (tgt := 68) dX1_winnerOf_14 rfl (fun q1 => absurd q1 (by rw [Int32.le_iff_toInt_le, nI_toInt (by omega), nI_toInt (by omega)] at q1; omega)) (fun _ => ?_)
    refine rn_aload_n dX1_winnerOf_17 rfl ?_
    refine rn_getfield dX1_winnerOf_18 fo_X1_31 h_chip rfl ?_
    refine rn_iload dX1_winnerOf_21 rfl ?_
    refine rn_aaload dX1_winnerOf_23 h_rules rfl (vp_in_nI (by omega) (by decide)) (refs_at rfl (by omega) (by decide)) ?_
    refine rn_iload_n dX1_winnerOf_24 rfl ?_
    refine rn_iload_n dX1_winnerOf_25 rfl ?_
    refine rn_callV dX1_winnerOf_26 cv_X1_107 (c_X7_fits (by omega)) rfl (h_rule (by omega)) rfl rfl (by decide) (by decide) rfl (Nat.le_of_ble_eq_true rfl) ?_
    refine rn_if_eq (tgt := 62) dX1_winnerOf_29 rfl (fun q2 => ?_) (fun q2 => ?_)
    · refine rn_iinc dX1_winnerOf_62 rfl (nI_1 _) (by decide) rfl ?_
      refine rn_goto (tgt := 8) dX1_winnerOf_65 rfl ?_
      have hw : mWin S (nI s) (nI e) (k + 1) = mWin S (nI s) (nI e) k := by
        show (if mFits S k (nI s) (nI e) = true ∧ ¬ mWeight S k < (mWin S (nI s) (nI e) k).2 then (nI k, mWeight S k) else mWin S (nI s) (nI e) k) = _
        rw [if_neg (fun z => by have z1 := z.1; unfold mFits at z1; rw [bI_0] at q2; rw [q2] at z1; cases z1)]
      have ih := ih (k + 1) (by omega)
      rw [hw] at ih
      exact rn_subg rfl ih
    · refine rn_aload_n dX1_winnerOf_32 rfl ?_
      refine rn_getfield dX1_winnerOf_33 fo_X1_31 h_chip rfl ?_
      refine rn_iload dX1_winnerOf_36 rfl ?_
      refine rn_aaload dX1_winnerOf_38 h_rules rfl (vp_in_nI (by omega) (by decide)) (refs_at rfl (by omega) (by decide)) ?_
      refine rn_callV dX1_winnerOf_39 cv_X1_111 (c_X7_weight (by omega)) rfl (h_rule (by omega)) rfl rfl (by decide) (by decide) rfl (Nat.le_of_ble_eq_true rfl) ?_
      refine rn_iload dX1_winnerOf_42 rfl ?_
      refine rn_icmp_lt (tgt := 62) dX1_winnerOf_44 rfl (fun q3 => ?_) (fun q3 => ?_)
      · refine rn_iinc dX1_winnerOf_62 rfl (nI_1 _) (by decide) rfl ?_
        refine rn_goto (tgt := 8) dX1_winnerOf_65 rfl ?_
        have hw : mWin S (nI s) (nI e) (k + 1) = mWin S (nI s) (nI e) k := by
          show (if mFits S k (nI s) (nI e) = true ∧ ¬ mWeight S k < (mWin S (nI s) (nI e) k).2 then (nI k, mWeight S k) else mWin S (nI s) (nI e) k) = _
          rw [if_neg (fun z => z.2 q3)]
        have ih := ih (k + 1) (by omega)
        rw [hw] at ih
        exact rn_subg rfl ih
      · refine rn_iload dX1_winnerOf_47 rfl ?_
        refine rn_istore_n dX1_winnerOf_49 (by decide) rfl ?_
        refine rn_aload_n dX1_winnerOf_50 rfl ?_
        refine rn_getfield dX1_winnerOf_51 fo_X1_31 h_chip rfl ?_
        refine rn_iload dX1_winnerOf_54 rfl ?_
        refine rn_aaload dX1_winnerOf_56 h_rules rfl (vp_in_nI (by omega) (by decide)) (refs_at rfl (by omega) (by decide)) ?_
        refine rn_callV dX1_winnerOf_57 cv_X1_111 (c_X7_weight (by omega)) rfl (h_rule (by omega)) rfl rfl (by decide) (by decide) rfl (Nat.le_of_ble_eq_true rfl) ?_
        refine rn_istore dX1_winnerOf_60 (by decide) rfl ?_
        refine rn_iinc dX1_winnerOf_62 rfl (nI_1 _) (by decide) rfl ?_
        refine rn_goto (tgt := 8) dX1_winnerOf_65 rfl ?_
        have hw : mWin S (nI s) (nI e) (k + 1) = (nI k, mWeight S k) := by
          show (if mFits S k (nI s) (nI e) = true ∧ ¬ mWeight S k < (mWin S (nI s) (nI e) k).2 then (nI k, mWeight S k) else mWin S (nI s) (nI e) k) = _
          rw [if_pos ⟨by unfold mFits; rw [bI_n] at q2; exact q2, q3⟩]
        have ih := ih (k + 1) (by omega)
        rw [hw] at ih
        exact rn_subg rfl ih
set_option maxRecDepth 20000 in
theorem c_X1_winnerOf {s e nr : Nat} (hR : sI S 1 7 = nI nr) (hr : nr ≤ 6) : Cn l D ad tc L xs mX1_winnerOf 1 22 [.ref 2, .int (nI s), .int (nI e)] (wd S E, sl) (some (.int (mWin S (nI s) (nI e) nr).1)) (wd S E, sl) := by
  refine cn_of (lv0 := [(0, .ref 2), (1, .int (nI s)), (2, .int (nI e))]) (by decide +kernel) ⟨_, rfl, rfl⟩ (fun _ => by simp [lg_sl, j_v, Value.category]) (fun _ => rfl) ?_
  refine rn_iconst (v := (-1)) dX1_winnerOf_0 rfl ?_
  refine rn_istore_n dX1_winnerOf_1 (by decide) rfl ?_
  refine rn_iconst (v := 0) dX1_winnerOf_2 rfl ?_
  refine rn_istore dX1_winnerOf_3 (by decide) rfl ?_
  refine rn_iconst (v := 0) dX1_winnerOf_5 rfl ?_
  refine rn_istore dX1_winnerOf_6 (by decide) rfl ?_
  exact rn_subg rfl (lp_X1_winnerOf hR hr nr 0 (by omega))
set_option maxRecDepth 20000 in
/-- the greatest divisor stands when the second number is none -/
theorem lp_gd0 {a t : Nat} (ht : t < 64) : Rn l D ad tc L xs mX1_greatestDivisor 0 0 7 [(4, .int (nI t)), (3, .int (nI 0)), (2, .int (nI a))] [] (wd S E, sl) (some (.int (nI a))) (wd S E, sl) := by
  refine rn_iload dX1_greatestDivisor_7 rfl ?_
  refine rn_bipush (v := 64) dX1_greatestDivisor_9 rfl ?_
  refine rn_icmp_ge (tgt := 34) dX1_greatestDivisor_11 rfl (fun q1 => absurd q1 (by rw [show (64 : Int32) = nI 64 by decide, Int32.le_iff_toInt_le, nI_toInt (by omega), nI_toInt (by omega)] at q1; omega)) (fun _ => ?_)
  refine rn_iload_n dX1_greatestDivisor_14 rfl ?_
  refine rn_if_eq (tgt := 34) dX1_greatestDivisor_15 rfl (fun _ => ?_) (fun q2 => absurd (by decide) q2)
  refine rn_iload_n dX1_greatestDivisor_34 rfl ?_
  exact rn_ret dX1_greatestDivisor_35 trivial rfl
set_option maxRecDepth 20000 in
theorem lp_gd1 {a b t : Nat} {r : Option Value} (ht : t < 64) (ha : a < 2 ^ 31) (hb : b ≠ 0) (hb2 : b < 2 ^ 31) (k : Rn l D ad tc L xs mX1_greatestDivisor 0 0 7 [(4, .int (nI (t + 1))), (3, .int (nI (a % b))), (2, .int (nI b))] [] (wd S E, sl) r (wd S E, sl)) : Rn l D ad tc L xs mX1_greatestDivisor 0 0 7 [(4, .int (nI t)), (3, .int (nI b)), (2, .int (nI a))] [] (wd S E, sl) r (wd S E, sl) := by
  refine rn_iload dX1_greatestDivisor_7 rfl ?_
  refine rn_bipush (v := 64) dX1_greatestDivisor_9 rfl ?_
  refine rn_icmp_ge (tgt := 34) dX1_greatestDivisor_11 rfl (fun q1 => absurd q1 (by rw [show (64 : Int32) = nI 64 by decide, Int32.le_iff_toInt_le, nI_toInt (by omega), nI_toInt (by omega)] at q1; omega)) (fun _ => ?_)
  refine rn_iload_n dX1_greatestDivisor_14 rfl ?_
  refine rn_if_eq (tgt := 34) dX1_greatestDivisor_15 rfl (fun q2 => absurd q2 (by exact fun z => hb ((nI_eq (b := 0) (by omega) (by decide)).mp z))) (fun _ => ?_)
  refine rn_iload_n dX1_greatestDivisor_18 rfl ?_
  refine rn_iload_n dX1_greatestDivisor_19 rfl ?_
  refine rn_irem dX1_greatestDivisor_20 (fun z => hb ((nI_eq (b := 0) (by omega) (by decide)).mp z)) ?_
  refine rn_istore dX1_greatestDivisor_21 (by decide) rfl ?_
  refine rn_iload_n dX1_greatestDivisor_23 rfl ?_
  refine rn_istore_n dX1_greatestDivisor_24 (by decide) rfl ?_
  refine rn_iload dX1_greatestDivisor_25 rfl ?_
  refine rn_istore_n dX1_greatestDivisor_27 (by decide) rfl ?_
  refine rn_iinc dX1_greatestDivisor_28 rfl (nI_1 _) (by decide) rfl ?_
  refine rn_goto (tgt := 7) dX1_greatestDivisor_31 rfl ?_
  rw [pk_rem ha (by omega) (by omega)]
  exact rn_subg rfl k
theorem lp_gd : ∀ (j a b t : Nat), b < 2 ^ j → t + 2 * j < 64 → a < 2 ^ 31 → b < 2 ^ 31 → Rn l D ad tc L xs mX1_greatestDivisor 0 0 7 [(4, .int (nI t)), (3, .int (nI b)), (2, .int (nI a))] [] (wd S E, sl) (some (.int (nI (Nat.gcd a b)))) (wd S E, sl) := by
  intro j
  induction j with
  | zero =>
    intro a b t hb ht ha hb2
    have hb0 : b = 0 := by simpa using hb
    subst hb0
    rw [Nat.gcd_zero_right]
    exact lp_gd0 (by omega)
  | succ j ih =>
    intro a b t hb ht ha hb2
    by_cases hb0 : b = 0
    · subst hb0
      rw [Nat.gcd_zero_right]
      exact lp_gd0 (by omega)
    have gs : ∀ x y : Nat, Nat.gcd x y = Nat.gcd y (x % y) := fun x y => by rw [Nat.gcd_comm x y, Nat.gcd_rec y x, Nat.gcd_comm]
    have h1 : a % b < b := Nat.mod_lt _ (by omega)
    refine lp_gd1 (by omega) ha hb0 hb2 ?_
    rw [gs a b]
    by_cases hc : a % b = 0
    · rw [hc, Nat.gcd_zero_right]
      exact lp_gd0 (by omega)
    have h2 : b % (a % b) < a % b := Nat.mod_lt _ (by omega)
    refine lp_gd1 (by omega) hb2 hc (by omega) ?_
    rw [gs b (a % b)]
    refine ih (a % b) (b % (a % b)) (t + 1 + 1) ?_ (by omega) (by omega) (by omega)
    have h3 : b % (a % b) + (a % b) ≤ b := by
      have := Nat.div_add_mod b (a % b)
      have h4 : 1 ≤ b / (a % b) := (Nat.le_div_iff_mul_le (by omega)).mpr (by omega)
      have h5 : (a % b) * 1 ≤ (a % b) * (b / (a % b)) := Nat.mul_le_mul_left _ h4
      omega
    rw [Nat.pow_succ] at hb
    omega
set_option maxRecDepth 20000 in
theorem c_X1_greatestDivisor {a b : Nat} (ha : a < 2 ^ 31) (hb : b < 2 ^ 31) : Cn l D ad tc L xs mX1_greatestDivisor 0 0 [.int (nI a), .int (nI b)] (wd S E, sl) (some (.int (nI (Nat.gcd a b)))) (wd S E, sl) := by
  refine cn_of (lv0 := [(0, .int (nI a)), (1, .int (nI b))]) (by decide +kernel) ⟨_, rfl, rfl⟩ (fun _ => by simp [lg_sl, j_v, Value.category]) (fun _ => rfl) ?_
  refine rn_iload_n dX1_greatestDivisor_0 rfl ?_
  refine rn_istore_n dX1_greatestDivisor_1 (by decide) rfl ?_
  refine rn_iload_n dX1_greatestDivisor_2 rfl ?_
  refine rn_istore_n dX1_greatestDivisor_3 (by decide) rfl ?_
  refine rn_iconst (v := 0) dX1_greatestDivisor_4 rfl ?_
  refine rn_istore dX1_greatestDivisor_5 (by decide) rfl ?_
  exact rn_subg rfl (lp_gd 31 a b 0 (by omega) (by omega) (by omega) (by omega))
set_option maxRecDepth 20000 in
theorem c_X1_gapOf {s e p q : Nat} {m : Int32} (hs : s < 16) (he : e < 16) (hv : ∀ i, i < 16 → sV S i < 4) (hp : sI S (sV S s + 6) 0 = nI p) (hq : sI S (sV S e + 6) 0 = nI q) (hp1 : p < 2 ^ 31) (hq1 : q < 2 ^ 31) : Cn l D ad tc L xs mX1_gapOf 1 25 [.ref 2, .int (nI s), .int (nI e), .int m] (wd S E, sl) (some (.int (nI (Nat.gcd p q) + (m - 1) * nI q))) (wd S E, sl) := by
  refine cn_of (lv0 := [(0, .ref 2), (1, .int (nI s)), (2, .int (nI e)), (3, .int m)]) (by decide +kernel) ⟨_, rfl, rfl⟩ (fun _ => by simp [lg_sl, j_v, Value.category]) (fun _ => rfl) ?_
  have hv1 := hv s hs
  have hv2 := hv e he
  refine rn_aload_n dX1_gapOf_0 rfl ?_
  refine rn_getfield dX1_gapOf_1 fo_X1_25 h_chip rfl ?_
  refine rn_iload_n dX1_gapOf_4 rfl ?_
  refine rn_aaload dX1_gapOf_5 h_nodes rfl (vp_in_nI (by omega) (by decide)) (refs_at rfl (by omega) (by decide)) ?_
  refine rn_getfield dX1_gapOf_6 fo_X1_91 (h_node (by omega)) rfl ?_
  refine rn_getfield dX1_gapOf_9 fo_X1_51 (h_clock (by omega)) rfl ?_
  rw [hq]
  refine rn_istore dX1_gapOf_12 (by decide) rfl ?_
  refine rn_aload_n dX1_gapOf_14 rfl ?_
  refine rn_getfield dX1_gapOf_15 fo_X1_25 h_chip rfl ?_
  refine rn_iload_n dX1_gapOf_18 rfl ?_
  refine rn_aaload dX1_gapOf_19 h_nodes rfl (vp_in_nI (by omega) (by decide)) (refs_at rfl (by omega) (by decide)) ?_
  refine rn_getfield dX1_gapOf_20 fo_X1_91 (h_node (by omega)) rfl ?_
  refine rn_getfield dX1_gapOf_23 fo_X1_51 (h_clock (by omega)) rfl ?_
  rw [hp]
  refine rn_iload dX1_gapOf_26 rfl ?_
  refine rn_callS dX1_gapOf_28 cs_X1_115 (c_X1_greatestDivisor hp1 hq1) rfl (by decide) (by decide) rfl (Nat.le_of_ble_eq_true rfl) ?_
  refine rn_iload_n dX1_gapOf_31 rfl ?_
  refine rn_iconst (v := 1) dX1_gapOf_32 rfl ?_
  refine rn_isub dX1_gapOf_33 ?_
  refine rn_iload dX1_gapOf_34 rfl ?_
  refine rn_imul dX1_gapOf_36 ?_
  refine rn_iadd dX1_gapOf_37 ?_
  exact rn_ret dX1_gapOf_38 trivial rfl
end P2
