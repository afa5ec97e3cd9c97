/-! leaves: methods that call none, or leaves alone -/
section L2
variable {l : Launch} {D : va_G} {ad : Nat → Nat} {tc : Nat → ClassId} {L : Nat} {xs : Nat → Int32} {S : jS} {E : List j_C} {sl : Nat}
set_option maxRecDepth 20000 in
theorem c_X1_hasNode {v : Int32} : Cn l D ad tc L xs mX1_hasNode 0 0 [.ref 2, .int v] (wd S E, sl) (some (.int (bI (decide (0 ≤ v ∧ v < sI S 1 6))))) (wd S E, sl) := by
  refine cn_of (lv0 := [(0, .ref 2), (1, .int v)]) (by decide +kernel) ⟨_, rfl, bI_nar _⟩ (fun _ => by simp [lg_sl, j_v, Value.category]) (fun _ => rfl) ?_
  refine rn_iload_n dX1_hasNode_0 rfl ?_
  refine rn_if_lt (tgt := 16) dX1_hasNode_1 rfl (fun q1 => ?_) (fun q1 => ?_)
  · refine rn_iconst (v := 0) dX1_hasNode_16 rfl ?_
    exact rn_ret dX1_hasNode_17 trivial (by simp_all [bI, Int32.le_iff_toInt_le, Int32.lt_iff_toInt_lt] <;> omega)
  · refine rn_iload_n dX1_hasNode_4 rfl ?_
    refine rn_aload_n dX1_hasNode_5 rfl ?_
    refine rn_getfield dX1_hasNode_6 fo_X1_48 h_chip rfl ?_
    refine rn_icmp_ge (tgt := 16) dX1_hasNode_9 rfl (fun q2 => ?_) (fun q2 => ?_)
    · refine rn_iconst (v := 0) dX1_hasNode_16 rfl ?_
      exact rn_ret dX1_hasNode_17 trivial (by simp_all [bI, Int32.le_iff_toInt_le, Int32.lt_iff_toInt_lt] <;> omega)
    · refine rn_iconst (v := 1) dX1_hasNode_12 rfl ?_
      refine rn_goto (tgt := 17) dX1_hasNode_13 rfl ?_
      exact rn_ret dX1_hasNode_17 trivial (by simp_all [bI, Int32.le_iff_toInt_le, Int32.lt_iff_toInt_lt] <;> omega)
set_option maxRecDepth 20000 in
theorem c_X1_hasClock {v : Int32} : Cn l D ad tc L xs mX1_hasClock 0 0 [.ref 2, .int v] (wd S E, sl) (some (.int (bI (decide (0 ≤ v ∧ v < sI S 1 4))))) (wd S E, sl) := by
  refine cn_of (lv0 := [(0, .ref 2), (1, .int v)]) (by decide +kernel) ⟨_, rfl, bI_nar _⟩ (fun _ => by simp [lg_sl, j_v, Value.category]) (fun _ => rfl) ?_
  refine rn_iload_n dX1_hasClock_0 rfl ?_
  refine rn_if_lt (tgt := 16) dX1_hasClock_1 rfl (fun q1 => ?_) (fun q1 => ?_)
  · refine rn_iconst (v := 0) dX1_hasClock_16 rfl ?_
    exact rn_ret dX1_hasClock_17 trivial (by simp_all [bI, Int32.le_iff_toInt_le, Int32.lt_iff_toInt_lt] <;> omega)
  · refine rn_iload_n dX1_hasClock_4 rfl ?_
    refine rn_aload_n dX1_hasClock_5 rfl ?_
    refine rn_getfield dX1_hasClock_6 fo_X1_45 h_chip rfl ?_
    refine rn_icmp_ge (tgt := 16) dX1_hasClock_9 rfl (fun q2 => ?_) (fun q2 => ?_)
    · refine rn_iconst (v := 0) dX1_hasClock_16 rfl ?_
      exact rn_ret dX1_hasClock_17 trivial (by simp_all [bI, Int32.le_iff_toInt_le, Int32.lt_iff_toInt_lt] <;> omega)
    · refine rn_iconst (v := 1) dX1_hasClock_12 rfl ?_
      refine rn_goto (tgt := 17) dX1_hasClock_13 rfl ?_
      exact rn_ret dX1_hasClock_17 trivial (by simp_all [bI, Int32.le_iff_toInt_le, Int32.lt_iff_toInt_lt] <;> omega)
set_option maxRecDepth 20000 in
theorem c_X1_hasCorner {v : Int32} : Cn l D ad tc L xs mX1_hasCorner 0 0 [.ref 2, .int v] (wd S E, sl) (some (.int (bI (decide (0 ≤ v ∧ v < sI S 1 5))))) (wd S E, sl) := by
  refine cn_of (lv0 := [(0, .ref 2), (1, .int v)]) (by decide +kernel) ⟨_, rfl, bI_nar _⟩ (fun _ => by simp [lg_sl, j_v, Value.category]) (fun _ => rfl) ?_
  refine rn_iload_n dX1_hasCorner_0 rfl ?_
  refine rn_if_lt (tgt := 16) dX1_hasCorner_1 rfl (fun q1 => ?_) (fun q1 => ?_)
  · refine rn_iconst (v := 0) dX1_hasCorner_16 rfl ?_
    exact rn_ret dX1_hasCorner_17 trivial (by simp_all [bI, Int32.le_iff_toInt_le, Int32.lt_iff_toInt_lt] <;> omega)
  · refine rn_iload_n dX1_hasCorner_4 rfl ?_
    refine rn_aload_n dX1_hasCorner_5 rfl ?_
    refine rn_getfield dX1_hasCorner_6 fo_X1_35 h_chip rfl ?_
    refine rn_icmp_ge (tgt := 16) dX1_hasCorner_9 rfl (fun q2 => ?_) (fun q2 => ?_)
    · refine rn_iconst (v := 0) dX1_hasCorner_16 rfl ?_
      exact rn_ret dX1_hasCorner_17 trivial (by simp_all [bI, Int32.le_iff_toInt_le, Int32.lt_iff_toInt_lt] <;> omega)
    · refine rn_iconst (v := 1) dX1_hasCorner_12 rfl ?_
      refine rn_goto (tgt := 17) dX1_hasCorner_13 rfl ?_
      exact rn_ret dX1_hasCorner_17 trivial (by simp_all [bI, Int32.le_iff_toInt_le, Int32.lt_iff_toInt_lt] <;> omega)
set_option maxRecDepth 20000 in
theorem c_X5_isStart {i : Nat} (hi : i < 16) : Cn l D ad tc L xs mX5_isStart 0 0 [.ref (i + 14)] (wd S E, sl) (some (.int (bI (decide (sI S (i + 13) 0 = 0 ∨ sI S (i + 13) 0 = 6 ∨ sI S (i + 13) 0 = 7))))) (wd S E, sl) := by
  refine cn_of (lv0 := [(0, .ref (i + 14))]) (by decide +kernel) ⟨_, rfl, bI_nar _⟩ (fun _ => by simp [lg_sl, j_v, Value.category]) (fun _ => rfl) ?_
  refine rn_aload_n dX5_isStart_0 rfl ?_
  refine rn_getfield dX5_isStart_1 fo_X5_32 (h_node (by omega)) rfl ?_
  refine rn_if_eq (tgt := 25) dX5_isStart_4 rfl (fun q1 => ?_) (fun q1 => ?_)
  · refine rn_iconst (v := 1) dX5_isStart_25 rfl ?_
    refine rn_goto (tgt := 30) dX5_isStart_26 rfl ?_
    exact rn_ret dX5_isStart_30 trivial (by simp_all [bI, Int32.le_iff_toInt_le, Int32.lt_iff_toInt_lt] <;> omega)
  · refine rn_aload_n dX5_isStart_7 rfl ?_
    refine rn_getfield dX5_isStart_8 fo_X5_32 (h_node (by omega)) rfl ?_
    refine rn_bipush (v := 6) dX5_isStart_11 rfl ?_
    refine rn_icmp_eq (tgt := 25) dX5_isStart_13 rfl (fun q2 => ?_) (fun q2 => ?_)
    · refine rn_iconst (v := 1) dX5_isStart_25 rfl ?_
      refine rn_goto (tgt := 30) dX5_isStart_26 rfl ?_
      exact rn_ret dX5_isStart_30 trivial (by simp_all [bI, Int32.le_iff_toInt_le, Int32.lt_iff_toInt_lt] <;> omega)
    · refine rn_aload_n dX5_isStart_16 rfl ?_
      refine rn_getfield dX5_isStart_17 fo_X5_32 (h_node (by omega)) rfl ?_
      refine rn_bipush (v := 7) dX5_isStart_20 rfl ?_
      refine rn_icmp_ne (tgt := 29) dX5_isStart_22 rfl (fun q3 => ?_) (fun q3 => ?_)
      · refine rn_iconst (v := 0) dX5_isStart_29 rfl ?_
        exact rn_ret dX5_isStart_30 trivial (by simp_all [bI, Int32.le_iff_toInt_le, Int32.lt_iff_toInt_lt] <;> omega)
      · refine rn_iconst (v := 1) dX5_isStart_25 rfl ?_
        refine rn_goto (tgt := 30) dX5_isStart_26 rfl ?_
        exact rn_ret dX5_isStart_30 trivial (by simp_all [bI, Int32.le_iff_toInt_le, Int32.lt_iff_toInt_lt] <;> omega)
set_option maxRecDepth 20000 in
theorem c_X5_isEndKind {i : Nat} (hi : i < 16) : Cn l D ad tc L xs mX5_isEndKind 0 0 [.ref (i + 14)] (wd S E, sl) (some (.int (bI (decide (sI S (i + 13) 0 = 6 ∨ sI S (i + 13) 0 = 7 ∨ sI S (i + 13) 0 = 8))))) (wd S E, sl) := by
  refine cn_of (lv0 := [(0, .ref (i + 14))]) (by decide +kernel) ⟨_, rfl, bI_nar _⟩ (fun _ => by simp [lg_sl, j_v, Value.category]) (fun _ => rfl) ?_
  refine rn_aload_n dX5_isEndKind_0 rfl ?_
  refine rn_getfield dX5_isEndKind_1 fo_X5_32 (h_node (by omega)) rfl ?_
  refine rn_bipush (v := 6) dX5_isEndKind_4 rfl ?_
  refine rn_icmp_eq (tgt := 27) dX5_isEndKind_6 rfl (fun q1 => ?_) (fun q1 => ?_)
  · refine rn_iconst (v := 1) dX5_isEndKind_27 rfl ?_
    refine rn_goto (tgt := 32) dX5_isEndKind_28 rfl ?_
    exact rn_ret dX5_isEndKind_32 trivial (by simp_all [bI, Int32.le_iff_toInt_le, Int32.lt_iff_toInt_lt] <;> omega)
  · refine rn_aload_n dX5_isEndKind_9 rfl ?_
    refine rn_getfield dX5_isEndKind_10 fo_X5_32 (h_node (by omega)) rfl ?_
    refine rn_bipush (v := 7) dX5_isEndKind_13 rfl ?_
    refine rn_icmp_eq (tgt := 27) dX5_isEndKind_15 rfl (fun q2 => ?_) (fun q2 => ?_)
    · refine rn_iconst (v := 1) dX5_isEndKind_27 rfl ?_
      refine rn_goto (tgt := 32) dX5_isEndKind_28 rfl ?_
      exact rn_ret dX5_isEndKind_32 trivial (by simp_all [bI, Int32.le_iff_toInt_le, Int32.lt_iff_toInt_lt] <;> omega)
    · refine rn_aload_n dX5_isEndKind_18 rfl ?_
      refine rn_getfield dX5_isEndKind_19 fo_X5_32 (h_node (by omega)) rfl ?_
      refine rn_bipush (v := 8) dX5_isEndKind_22 rfl ?_
      refine rn_icmp_ne (tgt := 31) dX5_isEndKind_24 rfl (fun q3 => ?_) (fun q3 => ?_)
      · refine rn_iconst (v := 0) dX5_isEndKind_31 rfl ?_
        exact rn_ret dX5_isEndKind_32 trivial (by simp_all [bI, Int32.le_iff_toInt_le, Int32.lt_iff_toInt_lt] <;> omega)
      · refine rn_iconst (v := 1) dX5_isEndKind_27 rfl ?_
        refine rn_goto (tgt := 32) dX5_isEndKind_28 rfl ?_
        exact rn_ret dX5_isEndKind_32 trivial (by simp_all [bI, Int32.le_iff_toInt_le, Int32.lt_iff_toInt_lt] <;> omega)
set_option maxRecDepth 20000 in
theorem c_X5_isGate {i : Nat} (hi : i < 16) : Cn l D ad tc L xs mX5_isGate 0 0 [.ref (i + 14)] (wd S E, sl) (some (.int (bI (decide (1 ≤ sI S (i + 13) 0 ∧ sI S (i + 13) 0 ≤ 5))))) (wd S E, sl) := by
  refine cn_of (lv0 := [(0, .ref (i + 14))]) (by decide +kernel) ⟨_, rfl, bI_nar _⟩ (fun _ => by simp [lg_sl, j_v, Value.category]) (fun _ => rfl) ?_
  refine rn_aload_n dX5_isGate_0 rfl ?_
  refine rn_getfield dX5_isGate_1 fo_X5_32 (h_node (by omega)) rfl ?_
  refine rn_iconst (v := 1) dX5_isGate_4 rfl ?_
  refine rn_icmp_lt (tgt := 20) dX5_isGate_5 rfl (fun q1 => ?_) (fun q1 => ?_)
  · refine rn_iconst (v := 0) dX5_isGate_20 rfl ?_
    exact rn_ret dX5_isGate_21 trivial (by simp_all [bI, Int32.le_iff_toInt_le, Int32.lt_iff_toInt_lt] <;> omega)
  · refine rn_aload_n dX5_isGate_8 rfl ?_
    refine rn_getfield dX5_isGate_9 fo_X5_32 (h_node (by omega)) rfl ?_
    refine rn_iconst (v := 5) dX5_isGate_12 rfl ?_
    refine rn_icmp_gt (tgt := 20) dX5_isGate_13 rfl (fun q2 => ?_) (fun q2 => ?_)
    · refine rn_iconst (v := 0) dX5_isGate_20 rfl ?_
      exact rn_ret dX5_isGate_21 trivial (by simp_all [bI, Int32.le_iff_toInt_le, Int32.lt_iff_toInt_lt] <;> omega)
    · refine rn_iconst (v := 1) dX5_isGate_16 rfl ?_
      refine rn_goto (tgt := 21) dX5_isGate_17 rfl ?_
      exact rn_ret dX5_isGate_21 trivial (by simp_all [bI, Int32.le_iff_toInt_le, Int32.lt_iff_toInt_lt] <;> omega)
set_option maxRecDepth 20000 in
theorem c_X5_makes {i : Nat} {x y : Int32} (hi : i < 16) : Cn l D ad tc L xs mX5_makes 0 0 [.ref (i + 14), .int x, .int y] (wd S E, sl) (some (.int (bI (decide (sI S (i + 13) 0 = 5 ∨ (if sI S (i + 13) 0 = 2 ∨ sI S (i + 13) 0 = 4 then x ≠ y else x = y)))))) (wd S E, sl) := by
  refine cn_of (lv0 := [(0, .ref (i + 14)), (1, .int x), (2, .int y)]) (by decide +kernel) ⟨_, rfl, bI_nar _⟩ (fun _ => by simp [lg_sl, j_v, Value.category]) (fun _ => rfl) ?_
  refine rn_aload_n dX5_makes_0 rfl ?_
  refine rn_getfield dX5_makes_1 fo_X5_32 (h_node (by omega)) rfl ?_
  refine rn_iconst (v := 5) dX5_makes_4 rfl ?_
  refine rn_icmp_ne (tgt := 10) dX5_makes_5 rfl (fun q1 => ?_) (fun q1 => ?_)
  · refine rn_aload_n dX5_makes_10 rfl ?_
    refine rn_getfield dX5_makes_11 fo_X5_32 (h_node (by omega)) rfl ?_
    refine rn_iconst (v := 2) dX5_makes_14 rfl ?_
    refine rn_icmp_eq (tgt := 26) dX5_makes_15 rfl (fun q2 => ?_) (fun q2 => ?_)
    · refine rn_iconst (v := 1) dX5_makes_26 rfl ?_
      refine rn_goto (tgt := 31) dX5_makes_27 rfl ?_
      refine rn_istore_n dX5_makes_31 (by decide) rfl ?_
      refine rn_iload_n dX5_makes_32 rfl ?_
      refine rn_if_eq (tgt := 49) dX5_makes_33 rfl (fun q3 => ?_) (fun q3 => ?_)
      · refine rn_iload_n dX5_makes_49 rfl ?_
        refine rn_iload_n dX5_makes_50 rfl ?_
        refine rn_icmp_ne (tgt := 58) dX5_makes_51 rfl (fun q4 => ?_) (fun q4 => ?_)
        · refine rn_iconst (v := 0) dX5_makes_58 rfl ?_
          exact rn_ret dX5_makes_59 trivial (by simp_all [bI, Int32.le_iff_toInt_le, Int32.lt_iff_toInt_lt] <;> omega)
        · refine rn_iconst (v := 1) dX5_makes_54 rfl ?_
          refine rn_goto (tgt := 59) dX5_makes_55 rfl ?_
          exact rn_ret dX5_makes_59 trivial (by simp_all [bI, Int32.le_iff_toInt_le, Int32.lt_iff_toInt_lt] <;> omega)
      · refine rn_iload_n dX5_makes_36 rfl ?_
        refine rn_iload_n dX5_makes_37 rfl ?_
        refine rn_icmp_eq (tgt := 45) dX5_makes_38 rfl (fun q5 => ?_) (fun q5 => ?_)
        · refine rn_iconst (v := 0) dX5_makes_45 rfl ?_
          refine rn_goto (tgt := 59) dX5_makes_46 rfl ?_
          exact rn_ret dX5_makes_59 trivial (by simp_all [bI, Int32.le_iff_toInt_le, Int32.lt_iff_toInt_lt] <;> omega)
        · refine rn_iconst (v := 1) dX5_makes_41 rfl ?_
          refine rn_goto (tgt := 59) dX5_makes_42 rfl ?_
          exact rn_ret dX5_makes_59 trivial (by simp_all [bI, Int32.le_iff_toInt_le, Int32.lt_iff_toInt_lt] <;> omega)
    · refine rn_aload_n dX5_makes_18 rfl ?_
      refine rn_getfield dX5_makes_19 fo_X5_32 (h_node (by omega)) rfl ?_
      refine rn_iconst (v := 4) dX5_makes_22 rfl ?_
      refine rn_icmp_ne (tgt := 30) dX5_makes_23 rfl (fun q6 => ?_) (fun q6 => ?_)
      · refine rn_iconst (v := 0) dX5_makes_30 rfl ?_
        refine rn_istore_n dX5_makes_31 (by decide) rfl ?_
        refine rn_iload_n dX5_makes_32 rfl ?_
        refine rn_if_eq (tgt := 49) dX5_makes_33 rfl (fun q7 => ?_) (fun q7 => ?_)
        · refine rn_iload_n dX5_makes_49 rfl ?_
          refine rn_iload_n dX5_makes_50 rfl ?_
          refine rn_icmp_ne (tgt := 58) dX5_makes_51 rfl (fun q8 => ?_) (fun q8 => ?_)
          · refine rn_iconst (v := 0) dX5_makes_58 rfl ?_
            exact rn_ret dX5_makes_59 trivial (by simp_all [bI, Int32.le_iff_toInt_le, Int32.lt_iff_toInt_lt] <;> omega)
          · refine rn_iconst (v := 1) dX5_makes_54 rfl ?_
            refine rn_goto (tgt := 59) dX5_makes_55 rfl ?_
            exact rn_ret dX5_makes_59 trivial (by simp_all [bI, Int32.le_iff_toInt_le, Int32.lt_iff_toInt_lt] <;> omega)
        · refine rn_iload_n dX5_makes_36 rfl ?_
          refine rn_iload_n dX5_makes_37 rfl ?_
          refine rn_icmp_eq (tgt := 45) dX5_makes_38 rfl (fun q9 => ?_) (fun q9 => ?_)
          · refine rn_iconst (v := 0) dX5_makes_45 rfl ?_
            refine rn_goto (tgt := 59) dX5_makes_46 rfl ?_
            exact rn_ret dX5_makes_59 trivial (by simp_all [bI, Int32.le_iff_toInt_le, Int32.lt_iff_toInt_lt] <;> omega)
          · refine rn_iconst (v := 1) dX5_makes_41 rfl ?_
            refine rn_goto (tgt := 59) dX5_makes_42 rfl ?_
            exact rn_ret dX5_makes_59 trivial (by simp_all [bI, Int32.le_iff_toInt_le, Int32.lt_iff_toInt_lt] <;> omega)
      · refine rn_iconst (v := 1) dX5_makes_26 rfl ?_
        refine rn_goto (tgt := 31) dX5_makes_27 rfl ?_
        refine rn_istore_n dX5_makes_31 (by decide) rfl ?_
        refine rn_iload_n dX5_makes_32 rfl ?_
        refine rn_if_eq (tgt := 49) dX5_makes_33 rfl (fun q10 => ?_) (fun q10 => ?_)
        · refine rn_iload_n dX5_makes_49 rfl ?_
          refine rn_iload_n dX5_makes_50 rfl ?_
          refine rn_icmp_ne (tgt := 58) dX5_makes_51 rfl (fun q11 => ?_) (fun q11 => ?_)
          · refine rn_iconst (v := 0) dX5_makes_58 rfl ?_
            exact rn_ret dX5_makes_59 trivial (by simp_all [bI, Int32.le_iff_toInt_le, Int32.lt_iff_toInt_lt] <;> omega)
          · refine rn_iconst (v := 1) dX5_makes_54 rfl ?_
            refine rn_goto (tgt := 59) dX5_makes_55 rfl ?_
            exact rn_ret dX5_makes_59 trivial (by simp_all [bI, Int32.le_iff_toInt_le, Int32.lt_iff_toInt_lt] <;> omega)
        · refine rn_iload_n dX5_makes_36 rfl ?_
          refine rn_iload_n dX5_makes_37 rfl ?_
          refine rn_icmp_eq (tgt := 45) dX5_makes_38 rfl (fun q12 => ?_) (fun q12 => ?_)
          · refine rn_iconst (v := 0) dX5_makes_45 rfl ?_
            refine rn_goto (tgt := 59) dX5_makes_46 rfl ?_
            exact rn_ret dX5_makes_59 trivial (by simp_all [bI, Int32.le_iff_toInt_le, Int32.lt_iff_toInt_lt] <;> omega)
          · refine rn_iconst (v := 1) dX5_makes_41 rfl ?_
            refine rn_goto (tgt := 59) dX5_makes_42 rfl ?_
            exact rn_ret dX5_makes_59 trivial (by simp_all [bI, Int32.le_iff_toInt_le, Int32.lt_iff_toInt_lt] <;> omega)
  · refine rn_iconst (v := 1) dX5_makes_8 rfl ?_
    exact rn_ret dX5_makes_9 trivial (by simp_all [bI, Int32.le_iff_toInt_le, Int32.lt_iff_toInt_lt] <;> omega)
set_option maxRecDepth 20000 in
theorem c_X9_isIn {v a b : Int32} : Cn l D ad tc L xs mX9_isIn 0 0 [.int v, .int a, .int b] (wd S E, sl) (some (.int (bI (decide (a ≤ v ∧ v ≤ b))))) (wd S E, sl) := by
  refine cn_of (lv0 := [(0, .int v), (1, .int a), (2, .int b)]) (by decide +kernel) ⟨_, rfl, bI_nar _⟩ (fun _ => by simp [lg_sl, j_v, Value.category]) (fun _ => rfl) ?_
  refine rn_iload_n dX9_isIn_0 rfl ?_
  refine rn_iload_n dX9_isIn_1 rfl ?_
  refine rn_icmp_lt (tgt := 14) dX9_isIn_2 rfl (fun q1 => ?_) (fun q1 => ?_)
  · refine rn_iconst (v := 0) dX9_isIn_14 rfl ?_
    exact rn_ret dX9_isIn_15 trivial (by simp_all [bI, Int32.le_iff_toInt_le, Int32.lt_iff_toInt_lt] <;> omega)
  · refine rn_iload_n dX9_isIn_5 rfl ?_
    refine rn_iload_n dX9_isIn_6 rfl ?_
    refine rn_icmp_gt (tgt := 14) dX9_isIn_7 rfl (fun q2 => ?_) (fun q2 => ?_)
    · refine rn_iconst (v := 0) dX9_isIn_14 rfl ?_
      exact rn_ret dX9_isIn_15 trivial (by simp_all [bI, Int32.le_iff_toInt_le, Int32.lt_iff_toInt_lt] <;> omega)
    · refine rn_iconst (v := 1) dX9_isIn_10 rfl ?_
      refine rn_goto (tgt := 15) dX9_isIn_11 rfl ?_
      exact rn_ret dX9_isIn_15 trivial (by simp_all [bI, Int32.le_iff_toInt_le, Int32.lt_iff_toInt_lt] <;> omega)
set_option maxRecDepth 20000 in
theorem c_X9_isSize {v : Int32} : Cn l D ad tc L xs mX9_isSize 0 0 [.int v] (wd S E, sl) (some (.int (bI (decide (v = 1 ∨ v = 2 ∨ v = 4))))) (wd S E, sl) := by
  refine cn_of (lv0 := [(0, .int v)]) (by decide +kernel) ⟨_, rfl, bI_nar _⟩ (fun _ => by simp [lg_sl, j_v, Value.category]) (fun _ => rfl) ?_
  refine rn_iload_n dX9_isSize_0 rfl ?_
  refine rn_iconst (v := 1) dX9_isSize_1 rfl ?_
  refine rn_icmp_eq (tgt := 15) dX9_isSize_2 rfl (fun q1 => ?_) (fun q1 => ?_)
  · refine rn_iconst (v := 1) dX9_isSize_15 rfl ?_
    refine rn_goto (tgt := 20) dX9_isSize_16 rfl ?_
    exact rn_ret dX9_isSize_20 trivial (by simp_all [bI, Int32.le_iff_toInt_le, Int32.lt_iff_toInt_lt] <;> omega)
  · refine rn_iload_n dX9_isSize_5 rfl ?_
    refine rn_iconst (v := 2) dX9_isSize_6 rfl ?_
    refine rn_icmp_eq (tgt := 15) dX9_isSize_7 rfl (fun q2 => ?_) (fun q2 => ?_)
    · refine rn_iconst (v := 1) dX9_isSize_15 rfl ?_
      refine rn_goto (tgt := 20) dX9_isSize_16 rfl ?_
      exact rn_ret dX9_isSize_20 trivial (by simp_all [bI, Int32.le_iff_toInt_le, Int32.lt_iff_toInt_lt] <;> omega)
    · refine rn_iload_n dX9_isSize_10 rfl ?_
      refine rn_iconst (v := 4) dX9_isSize_11 rfl ?_
      refine rn_icmp_ne (tgt := 19) dX9_isSize_12 rfl (fun q3 => ?_) (fun q3 => ?_)
      · refine rn_iconst (v := 0) dX9_isSize_19 rfl ?_
        exact rn_ret dX9_isSize_20 trivial (by simp_all [bI, Int32.le_iff_toInt_le, Int32.lt_iff_toInt_lt] <;> omega)
      · refine rn_iconst (v := 1) dX9_isSize_15 rfl ?_
        refine rn_goto (tgt := 20) dX9_isSize_16 rfl ?_
        exact rn_ret dX9_isSize_20 trivial (by simp_all [bI, Int32.le_iff_toInt_le, Int32.lt_iff_toInt_lt] <;> omega)
set_option maxRecDepth 20000 in
theorem c_X9_smaller {a b : Int} (ha : dB a) (hb : dB b) : Cn l D ad tc L xs mX9_smaller 0 0 [.double (dv a), .double (dv b)] (wd S E, sl) (some (.double (dv (min a b)))) (wd S E, sl) := by
  refine cn_of (lv0 := [(0, .double (dv a)), (2, .double (dv b))]) (by decide +kernel) rfl (fun _ => by simp [lg_sl, j_v, Value.category]) (fun _ => rfl) ?_
  refine rn_dload_n dX9_smaller_0 rfl ?_
  refine rn_dload_n dX9_smaller_1 rfl ?_
  refine rn_dcmpv dX9_smaller_2 ha hb ?_
  refine rn_if_gt (tgt := 10) dX9_smaller_3 rfl (fun q1 => ?_) (fun q1 => ?_)
  · refine rn_dload_n dX9_smaller_10 rfl ?_
    exact rn_ret dX9_smaller_11 trivial (by (first | rw [cmpI_gt] at q1 | rw [cmpI_lt] at q1); show [Value.double (dv _)] = [Value.double (dv _)]; congr 3; omega)
  · refine rn_dload_n dX9_smaller_6 rfl ?_
    refine rn_goto (tgt := 11) dX9_smaller_7 rfl ?_
    exact rn_ret dX9_smaller_11 trivial (by (first | rw [cmpI_gt] at q1 | rw [cmpI_lt] at q1); show [Value.double (dv _)] = [Value.double (dv _)]; congr 3; omega)
set_option maxRecDepth 20000 in
theorem c_X9_greater {a b : Int} (ha : dB a) (hb : dB b) : Cn l D ad tc L xs mX9_greater 0 0 [.double (dv a), .double (dv b)] (wd S E, sl) (some (.double (dv (max a b)))) (wd S E, sl) := by
  refine cn_of (lv0 := [(0, .double (dv a)), (2, .double (dv b))]) (by decide +kernel) rfl (fun _ => by simp [lg_sl, j_v, Value.category]) (fun _ => rfl) ?_
  refine rn_dload_n dX9_greater_0 rfl ?_
  refine rn_dload_n dX9_greater_1 rfl ?_
  refine rn_dcmpv dX9_greater_2 ha hb ?_
  refine rn_if_lt (tgt := 10) dX9_greater_3 rfl (fun q1 => ?_) (fun q1 => ?_)
  · refine rn_dload_n dX9_greater_10 rfl ?_
    exact rn_ret dX9_greater_11 trivial (by (first | rw [cmpI_gt] at q1 | rw [cmpI_lt] at q1); show [Value.double (dv _)] = [Value.double (dv _)]; congr 3; omega)
  · refine rn_dload_n dX9_greater_6 rfl ?_
    refine rn_goto (tgt := 11) dX9_greater_7 rfl ?_
    exact rn_ret dX9_greater_11 trivial (by (first | rw [cmpI_gt] at q1 | rw [cmpI_lt] at q1); show [Value.double (dv _)] = [Value.double (dv _)]; congr 3; omega)
set_option maxRecDepth 20000 in
theorem c_X6_reaches {s i : Nat} (hi : i < 16) : Cn l D ad tc L xs mX6_reaches 0 0 [.ref 39, .int (nI s), .int (nI i)] (wd S E, sl) (some (.int (bI (decide ((sA S 39 i >>> (nI s &&& 31)) &&& 1 ≠ 0))))) (wd S E, sl) := by
  refine cn_of (lv0 := [(0, .ref 39), (1, .int (nI s)), (2, .int (nI i))]) (by decide +kernel) ⟨_, rfl, bI_nar _⟩ (fun _ => by simp [lg_sl, j_v, Value.category]) (fun _ => rfl) ?_
  refine rn_aload_n dX6_reaches_0 rfl ?_
  refine rn_getfield dX6_reaches_1 fo_X6_9 h_paths rfl ?_
  refine rn_iload_n dX6_reaches_4 rfl ?_
  refine rn_iaload dX6_reaches_5 h_reach rfl (vp_in_nI (by omega) (by decide)) ?_
  rw [nI_clamp (by omega)]
  refine rn_iload_n dX6_reaches_6 rfl ?_
  refine rn_ishr dX6_reaches_7 ?_
  refine rn_iconst (v := 1) dX6_reaches_8 rfl ?_
  refine rn_iand dX6_reaches_9 ?_
  refine rn_if_eq (tgt := 17) dX6_reaches_10 rfl (fun q1 => ?_) (fun q1 => ?_)
  · refine rn_iconst (v := 0) dX6_reaches_17 rfl ?_
    exact rn_ret dX6_reaches_18 trivial (by simp_all [bI, Int32.le_iff_toInt_le, Int32.lt_iff_toInt_lt] <;> omega)
  · refine rn_iconst (v := 1) dX6_reaches_13 rfl ?_
    refine rn_goto (tgt := 18) dX6_reaches_14 rfl ?_
    exact rn_ret dX6_reaches_18 trivial (by simp_all [bI, Int32.le_iff_toInt_le, Int32.lt_iff_toInt_lt] <;> omega)
set_option maxRecDepth 20000 in
theorem c_X6_isChecked {s i : Nat} (hi : i < 16) : Cn l D ad tc L xs mX6_isChecked 0 0 [.ref 39, .int (nI s), .int (nI i)] (wd S E, sl) (some (.int (bI (decide ((sA S 40 i >>> (nI s &&& 31)) &&& 1 ≠ 0))))) (wd S E, sl) := by
  refine cn_of (lv0 := [(0, .ref 39), (1, .int (nI s)), (2, .int (nI i))]) (by decide +kernel) ⟨_, rfl, bI_nar _⟩ (fun _ => by simp [lg_sl, j_v, Value.category]) (fun _ => rfl) ?_
  refine rn_aload_n dX6_isChecked_0 rfl ?_
  refine rn_getfield dX6_isChecked_1 fo_X6_15 h_paths rfl ?_
  refine rn_iload_n dX6_isChecked_4 rfl ?_
  refine rn_iaload dX6_isChecked_5 h_checked rfl (vp_in_nI (by omega) (by decide)) ?_
  rw [nI_clamp (by omega)]
  refine rn_iload_n dX6_isChecked_6 rfl ?_
  refine rn_ishr dX6_isChecked_7 ?_
  refine rn_iconst (v := 1) dX6_isChecked_8 rfl ?_
  refine rn_iand dX6_isChecked_9 ?_
  refine rn_if_eq (tgt := 17) dX6_isChecked_10 rfl (fun q1 => ?_) (fun q1 => ?_)
  · refine rn_iconst (v := 0) dX6_isChecked_17 rfl ?_
    exact rn_ret dX6_isChecked_18 trivial (by simp_all [bI, Int32.le_iff_toInt_le, Int32.lt_iff_toInt_lt] <;> omega)
  · refine rn_iconst (v := 1) dX6_isChecked_13 rfl ?_
    refine rn_goto (tgt := 18) dX6_isChecked_14 rfl ?_
    exact rn_ret dX6_isChecked_18 trivial (by simp_all [bI, Int32.le_iff_toInt_le, Int32.lt_iff_toInt_lt] <;> omega)
set_option maxRecDepth 20000 in
theorem c_X6_hasCheck {i : Nat} (hi : i < 16) : Cn l D ad tc L xs mX6_hasCheck 0 0 [.ref 39, .int (nI i)] (wd S E, sl) (some (.int (bI (decide (sA S 40 i ≠ 0))))) (wd S E, sl) := by
  refine cn_of (lv0 := [(0, .ref 39), (1, .int (nI i))]) (by decide +kernel) ⟨_, rfl, bI_nar _⟩ (fun _ => by simp [lg_sl, j_v, Value.category]) (fun _ => rfl) ?_
  refine rn_aload_n dX6_hasCheck_0 rfl ?_
  refine rn_getfield dX6_hasCheck_1 fo_X6_15 h_paths rfl ?_
  refine rn_iload_n dX6_hasCheck_4 rfl ?_
  refine rn_iaload dX6_hasCheck_5 h_checked rfl (vp_in_nI (by omega) (by decide)) ?_
  rw [nI_clamp (by omega)]
  refine rn_if_eq (tgt := 13) dX6_hasCheck_6 rfl (fun q1 => ?_) (fun q1 => ?_)
  · refine rn_iconst (v := 0) dX6_hasCheck_13 rfl ?_
    exact rn_ret dX6_hasCheck_14 trivial (by simp_all [bI, Int32.le_iff_toInt_le, Int32.lt_iff_toInt_lt] <;> omega)
  · refine rn_iconst (v := 1) dX6_hasCheck_9 rfl ?_
    refine rn_goto (tgt := 14) dX6_hasCheck_10 rfl ?_
    exact rn_ret dX6_hasCheck_14 trivial (by simp_all [bI, Int32.le_iff_toInt_le, Int32.lt_iff_toInt_lt] <;> omega)
set_option maxRecDepth 20000 in
theorem c_X6_gapBetween {s i : Nat} (hs : s < 16) (hi : i < 16) : Cn l D ad tc L xs mX6_gapBetween 0 0 [.ref 39, .int (nI s), .int (nI i)] (wd S E, sl) (some (.int (sA S 42 (s * 16 + i)))) (wd S E, sl) := by
  refine cn_of (lv0 := [(0, .ref 39), (1, .int (nI s)), (2, .int (nI i))]) (by decide +kernel) ⟨_, rfl, rfl⟩ (fun _ => by simp [lg_sl, j_v, Value.category]) (fun _ => rfl) ?_
  refine rn_aload_n dX6_gapBetween_0 rfl ?_
  refine rn_getfield dX6_gapBetween_1 fo_X6_21 h_paths rfl ?_
  refine rn_iload_n dX6_gapBetween_4 rfl ?_
  refine rn_bipush (v := nI 16) dX6_gapBetween_5 (by decide) ?_
  refine rn_imul dX6_gapBetween_7 ?_
  refine rn_topi (nI_mul _ _) ?_
  refine rn_iload_n dX6_gapBetween_8 rfl ?_
  refine rn_iadd dX6_gapBetween_9 ?_
  refine rn_topi (nI_add _ _) ?_
  refine rn_iaload dX6_gapBetween_10 h_gaps rfl (vp_in_nI (by omega) (by decide)) ?_
  rw [nI_clamp (by omega)]
  exact rn_ret dX6_gapBetween_11 trivial rfl
set_option maxRecDepth 20000 in
theorem c_X6_waysTo {s i : Nat} (hs : s < 16) (hi : i < 16) : Cn l D ad tc L xs mX6_waysTo 0 0 [.ref 39, .int (nI s), .int (nI i)] (wd S E, sl) (some (.int (sA S 41 (s * 16 + i)))) (wd S E, sl) := by
  refine cn_of (lv0 := [(0, .ref 39), (1, .int (nI s)), (2, .int (nI i))]) (by decide +kernel) ⟨_, rfl, rfl⟩ (fun _ => by simp [lg_sl, j_v, Value.category]) (fun _ => rfl) ?_
  refine rn_aload_n dX6_waysTo_0 rfl ?_
  refine rn_getfield dX6_waysTo_1 fo_X6_18 h_paths rfl ?_
  refine rn_iload_n dX6_waysTo_4 rfl ?_
  refine rn_bipush (v := nI 16) dX6_waysTo_5 (by decide) ?_
  refine rn_imul dX6_waysTo_7 ?_
  refine rn_topi (nI_mul _ _) ?_
  refine rn_iload_n dX6_waysTo_8 rfl ?_
  refine rn_iadd dX6_waysTo_9 ?_
  refine rn_topi (nI_add _ _) ?_
  refine rn_iaload dX6_waysTo_10 h_counts rfl (vp_in_nI (by omega) (by decide)) ?_
  rw [nI_clamp (by omega)]
  exact rn_ret dX6_waysTo_11 trivial rfl
set_option maxRecDepth 20000 in
theorem c_X7_fits {k : Nat} {s e : Int32} (hk : k < 6) : Cn l D ad tc L xs mX7_fits 0 0 [.ref (k + 30), .int s, .int e] (wd S E, sl) (some (.int (bI (decide ((sI S (k + 29) 1 = -1 ∨ sI S (k + 29) 1 = s) ∧ (sI S (k + 29) 2 = -1 ∨ sI S (k + 29) 2 = e)))))) (wd S E, sl) := by
  refine cn_of (lv0 := [(0, .ref (k + 30)), (1, .int s), (2, .int e)]) (by decide +kernel) ⟨_, rfl, bI_nar _⟩ (fun _ => by simp [lg_sl, j_v, Value.category]) (fun _ => rfl) ?_
  refine rn_aload_n dX7_fits_0 rfl ?_
  refine rn_getfield dX7_fits_1 fo_X7_9 (h_rule (by omega)) rfl ?_
  refine rn_iconst (v := (-1)) dX7_fits_4 rfl ?_
  refine rn_icmp_eq (tgt := 16) dX7_fits_5 rfl (fun q1 => ?_) (fun q1 => ?_)
  · refine rn_aload_n dX7_fits_16 rfl ?_
    refine rn_getfield dX7_fits_17 fo_X7_15 (h_rule (by omega)) rfl ?_
    refine rn_iconst (v := (-1)) dX7_fits_20 rfl ?_
    refine rn_icmp_eq (tgt := 32) dX7_fits_21 rfl (fun q2 => ?_) (fun q2 => ?_)
    · refine rn_iconst (v := 1) dX7_fits_32 rfl ?_
      refine rn_goto (tgt := 37) dX7_fits_33 rfl ?_
      exact rn_ret dX7_fits_37 trivial (by simp_all [bI, Int32.le_iff_toInt_le, Int32.lt_iff_toInt_lt] <;> omega)
    · refine rn_aload_n dX7_fits_24 rfl ?_
      refine rn_getfield dX7_fits_25 fo_X7_15 (h_rule (by omega)) rfl ?_
      refine rn_iload_n dX7_fits_28 rfl ?_
      refine rn_icmp_ne (tgt := 36) dX7_fits_29 rfl (fun q3 => ?_) (fun q3 => ?_)
      · refine rn_iconst (v := 0) dX7_fits_36 rfl ?_
        exact rn_ret dX7_fits_37 trivial (by simp_all [bI, Int32.le_iff_toInt_le, Int32.lt_iff_toInt_lt] <;> omega)
      · refine rn_iconst (v := 1) dX7_fits_32 rfl ?_
        refine rn_goto (tgt := 37) dX7_fits_33 rfl ?_
        exact rn_ret dX7_fits_37 trivial (by simp_all [bI, Int32.le_iff_toInt_le, Int32.lt_iff_toInt_lt] <;> omega)
  · refine rn_aload_n dX7_fits_8 rfl ?_
    refine rn_getfield dX7_fits_9 fo_X7_9 (h_rule (by omega)) rfl ?_
    refine rn_iload_n dX7_fits_12 rfl ?_
    refine rn_icmp_ne (tgt := 36) dX7_fits_13 rfl (fun q4 => ?_) (fun q4 => ?_)
    · refine rn_iconst (v := 0) dX7_fits_36 rfl ?_
      exact rn_ret dX7_fits_37 trivial (by simp_all [bI, Int32.le_iff_toInt_le, Int32.lt_iff_toInt_lt] <;> omega)
    · refine rn_aload_n dX7_fits_16 rfl ?_
      refine rn_getfield dX7_fits_17 fo_X7_15 (h_rule (by omega)) rfl ?_
      refine rn_iconst (v := (-1)) dX7_fits_20 rfl ?_
      refine rn_icmp_eq (tgt := 32) dX7_fits_21 rfl (fun q5 => ?_) (fun q5 => ?_)
      · refine rn_iconst (v := 1) dX7_fits_32 rfl ?_
        refine rn_goto (tgt := 37) dX7_fits_33 rfl ?_
        exact rn_ret dX7_fits_37 trivial (by simp_all [bI, Int32.le_iff_toInt_le, Int32.lt_iff_toInt_lt] <;> omega)
      · refine rn_aload_n dX7_fits_24 rfl ?_
        refine rn_getfield dX7_fits_25 fo_X7_15 (h_rule (by omega)) rfl ?_
        refine rn_iload_n dX7_fits_28 rfl ?_
        refine rn_icmp_ne (tgt := 36) dX7_fits_29 rfl (fun q6 => ?_) (fun q6 => ?_)
        · refine rn_iconst (v := 0) dX7_fits_36 rfl ?_
          exact rn_ret dX7_fits_37 trivial (by simp_all [bI, Int32.le_iff_toInt_le, Int32.lt_iff_toInt_lt] <;> omega)
        · refine rn_iconst (v := 1) dX7_fits_32 rfl ?_
          refine rn_goto (tgt := 37) dX7_fits_33 rfl ?_
          exact rn_ret dX7_fits_37 trivial (by simp_all [bI, Int32.le_iff_toInt_le, Int32.lt_iff_toInt_lt] <;> omega)
set_option maxRecDepth 20000 in
theorem c_X7_weight {k : Nat} (hk : k < 6) : Cn l D ad tc L xs mX7_weight 0 0 [.ref (k + 30)] (wd S E, sl) (some (.int (mWeight S k))) (wd S E, sl) := by
  refine cn_of (lv0 := [(0, .ref (k + 30))]) (by decide +kernel) ⟨_, rfl, rfl⟩ (fun _ => by simp [lg_sl, j_v, Value.category]) (fun _ => rfl) ?_
  refine rn_aload_n dX7_weight_0 rfl ?_
  refine rn_getfield dX7_weight_1 fo_X7_18 (h_rule (by omega)) rfl ?_
  refine rn_if_ne (tgt := 11) dX7_weight_4 rfl (fun q1 => ?_) (fun q1 => ?_)
  · refine rn_iconst (v := 0) dX7_weight_11 rfl ?_
    refine rn_aload_n dX7_weight_12 rfl ?_
    refine rn_getfield dX7_weight_13 fo_X7_9 (h_rule (by omega)) rfl ?_
    refine rn_iconst (v := (-1)) dX7_weight_16 rfl ?_
    refine rn_icmp_ne (tgt := 24) dX7_weight_17 rfl (fun q2 => ?_) (fun q2 => ?_)
    · refine rn_iconst (v := 2) dX7_weight_24 rfl ?_
      refine rn_iadd dX7_weight_25 ?_
      refine rn_aload_n dX7_weight_26 rfl ?_
      refine rn_getfield dX7_weight_27 fo_X7_15 (h_rule (by omega)) rfl ?_
      refine rn_iconst (v := (-1)) dX7_weight_30 rfl ?_
      refine rn_icmp_ne (tgt := 38) dX7_weight_31 rfl (fun q3 => ?_) (fun q3 => ?_)
      · refine rn_iconst (v := 1) dX7_weight_38 rfl ?_
        refine rn_iadd dX7_weight_39 ?_
        exact rn_ret dX7_weight_40 trivial (by simp_all [mWeight])
      · refine rn_iconst (v := 0) dX7_weight_34 rfl ?_
        refine rn_goto (tgt := 39) dX7_weight_35 rfl ?_
        refine rn_iadd dX7_weight_39 ?_
        exact rn_ret dX7_weight_40 trivial (by simp_all [mWeight])
    · refine rn_iconst (v := 0) dX7_weight_20 rfl ?_
      refine rn_goto (tgt := 25) dX7_weight_21 rfl ?_
      refine rn_iadd dX7_weight_25 ?_
      refine rn_aload_n dX7_weight_26 rfl ?_
      refine rn_getfield dX7_weight_27 fo_X7_15 (h_rule (by omega)) rfl ?_
      refine rn_iconst (v := (-1)) dX7_weight_30 rfl ?_
      refine rn_icmp_ne (tgt := 38) dX7_weight_31 rfl (fun q4 => ?_) (fun q4 => ?_)
      · refine rn_iconst (v := 1) dX7_weight_38 rfl ?_
        refine rn_iadd dX7_weight_39 ?_
        exact rn_ret dX7_weight_40 trivial (by simp_all [mWeight])
      · refine rn_iconst (v := 0) dX7_weight_34 rfl ?_
        refine rn_goto (tgt := 39) dX7_weight_35 rfl ?_
        refine rn_iadd dX7_weight_39 ?_
        exact rn_ret dX7_weight_40 trivial (by simp_all [mWeight])
  · refine rn_iconst (v := 4) dX7_weight_7 rfl ?_
    refine rn_goto (tgt := 12) dX7_weight_8 rfl ?_
    refine rn_aload_n dX7_weight_12 rfl ?_
    refine rn_getfield dX7_weight_13 fo_X7_9 (h_rule (by omega)) rfl ?_
    refine rn_iconst (v := (-1)) dX7_weight_16 rfl ?_
    refine rn_icmp_ne (tgt := 24) dX7_weight_17 rfl (fun q5 => ?_) (fun q5 => ?_)
    · refine rn_iconst (v := 2) dX7_weight_24 rfl ?_
      refine rn_iadd dX7_weight_25 ?_
      refine rn_aload_n dX7_weight_26 rfl ?_
      refine rn_getfield dX7_weight_27 fo_X7_15 (h_rule (by omega)) rfl ?_
      refine rn_iconst (v := (-1)) dX7_weight_30 rfl ?_
      refine rn_icmp_ne (tgt := 38) dX7_weight_31 rfl (fun q6 => ?_) (fun q6 => ?_)
      · refine rn_iconst (v := 1) dX7_weight_38 rfl ?_
        refine rn_iadd dX7_weight_39 ?_
        exact rn_ret dX7_weight_40 trivial (by simp_all [mWeight])
      · refine rn_iconst (v := 0) dX7_weight_34 rfl ?_
        refine rn_goto (tgt := 39) dX7_weight_35 rfl ?_
        refine rn_iadd dX7_weight_39 ?_
        exact rn_ret dX7_weight_40 trivial (by simp_all [mWeight])
    · refine rn_iconst (v := 0) dX7_weight_20 rfl ?_
      refine rn_goto (tgt := 25) dX7_weight_21 rfl ?_
      refine rn_iadd dX7_weight_25 ?_
      refine rn_aload_n dX7_weight_26 rfl ?_
      refine rn_getfield dX7_weight_27 fo_X7_15 (h_rule (by omega)) rfl ?_
      refine rn_iconst (v := (-1)) dX7_weight_30 rfl ?_
      refine rn_icmp_ne (tgt := 38) dX7_weight_31 rfl (fun q7 => ?_) (fun q7 => ?_)
      · refine rn_iconst (v := 1) dX7_weight_38 rfl ?_
        refine rn_iadd dX7_weight_39 ?_
        exact rn_ret dX7_weight_40 trivial (by simp_all [mWeight])
      · refine rn_iconst (v := 0) dX7_weight_34 rfl ?_
        refine rn_goto (tgt := 39) dX7_weight_35 rfl ?_
        refine rn_iadd dX7_weight_39 ?_
        exact rn_ret dX7_weight_40 trivial (by simp_all [mWeight])
set_option maxRecDepth 20000 in
theorem c_X8_leastAt {j i : Nat} (hj : j < 7) (hi : i < 16) : Cn l D ad tc L xs mX8_leastAt 0 0 [.ref (5 * j + 50), .int (nI i)] (wd S E, sl) (some (.double (sD S (5 * j + 52) i))) (wd S E, sl) := by
  refine cn_of (lv0 := [(0, .ref (5 * j + 50)), (1, .int (nI i))]) (by decide +kernel) rfl (fun _ => by simp [lg_sl, j_v, Value.category]) (fun _ => rfl) ?_
  refine rn_aload_n dX8_leastAt_0 rfl ?_
  refine rn_getfield dX8_leastAt_1 fo_X8_18 (h_tim (by omega)) rfl ?_
  refine rn_iload_n dX8_leastAt_4 rfl ?_
  refine rn_daload dX8_leastAt_5 (h_leasts (by omega)) rfl (vp_in_nI (by omega) (by decide)) ?_
  rw [nI_clamp (by omega)]
  exact rn_ret dX8_leastAt_6 trivial rfl
set_option maxRecDepth 20000 in
theorem c_X1_isOneGroup {s i : Nat} (hs : s < 16) (hi : i < 16) (hv : ∀ i, i < 16 → sV S i < 4) : Cn l D ad tc L xs mX1_isOneGroup 0 0 [.ref 2, .int (nI s), .int (nI i)] (wd S E, sl) (some (.int (bI (decide (sI S (sV S s + 6) 3 = sI S (sV S i + 6) 3))))) (wd S E, sl) := by
  refine cn_of (lv0 := [(0, .ref 2), (1, .int (nI s)), (2, .int (nI i))]) (by decide +kernel) ⟨_, rfl, bI_nar _⟩ (fun _ => by simp [lg_sl, j_v, Value.category]) (fun _ => rfl) ?_
  have hv1 := hv s hs
  have hv2 := hv i hi
  refine rn_aload_n dX1_isOneGroup_0 rfl ?_
  refine rn_getfield dX1_isOneGroup_1 fo_X1_25 h_chip rfl ?_
  refine rn_iload_n dX1_isOneGroup_4 rfl ?_
  refine rn_aaload dX1_isOneGroup_5 h_nodes rfl (vp_in_nI (by omega) (by decide)) (refs_at rfl (by omega) (by decide)) ?_
  refine rn_getfield dX1_isOneGroup_6 fo_X1_91 (h_node (by omega)) rfl ?_
  refine rn_getfield dX1_isOneGroup_9 fo_X1_60 (h_clock (by omega)) rfl ?_
  refine rn_aload_n dX1_isOneGroup_12 rfl ?_
  refine rn_getfield dX1_isOneGroup_13 fo_X1_25 h_chip rfl ?_
  refine rn_iload_n dX1_isOneGroup_16 rfl ?_
  refine rn_aaload dX1_isOneGroup_17 h_nodes rfl (vp_in_nI (by omega) (by decide)) (refs_at rfl (by omega) (by decide)) ?_
  refine rn_getfield dX1_isOneGroup_18 fo_X1_91 (h_node (by omega)) rfl ?_
  refine rn_getfield dX1_isOneGroup_21 fo_X1_60 (h_clock (by omega)) rfl ?_
  refine rn_icmp_ne (tgt := 31) dX1_isOneGroup_24 rfl (fun q1 => ?_) (fun q1 => ?_)
  · refine rn_iconst (v := 0) dX1_isOneGroup_31 rfl ?_
    exact rn_ret dX1_isOneGroup_32 trivial (by simp_all [bI, Int32.le_iff_toInt_le, Int32.lt_iff_toInt_lt] <;> omega)
  · refine rn_iconst (v := 1) dX1_isOneGroup_27 rfl ?_
    refine rn_goto (tgt := 32) dX1_isOneGroup_28 rfl ?_
    exact rn_ret dX1_isOneGroup_32 trivial (by simp_all [bI, Int32.le_iff_toInt_le, Int32.lt_iff_toInt_lt] <;> omega)
end L2
