/-! An empty chip: what is refused, and the rest of its calls -/
theorem no_node {S : jS} {v : Int32} (hF : Fr S) : bI (decide (0 ≤ v ∧ v < sI S 1 6)) = 0 := by
  rw [bI_0, decide_eq_false_iff_not, hF.1]
  exact fun z => absurd z.1 (Int32.not_le.mpr z.2)
theorem no_clock {S : jS} {v : Int32} (hF : Fr S) : bI (decide (0 ≤ v ∧ v < sI S 1 4)) = 0 := by
  rw [bI_0, decide_eq_false_iff_not, hF.2.2.1]
  exact fun z => absurd z.1 (Int32.not_le.mpr z.2)
theorem no_corner {S : jS} {v : Int32} (hF : Fr S) (hv : ¬ v = 0) : bI (decide (0 ≤ v ∧ v < sI S 1 5)) = 0 := by
  rw [bI_0, decide_eq_false_iff_not, hF.2.1]
  intro z
  have h1 := Int32.le_iff_toInt_le.mp z.1
  have h2 := Int32.lt_iff_toInt_lt.mp z.2
  have e0 : (0 : Int32).toInt = 0 := rfl
  have e1 : (1 : Int32).toInt = 1 := rfl
  exact hv (Int32.toInt_inj.mp (by omega))
theorem one_corner {S : jS} (hF : Fr S) : bI (decide ((0 : Int32) ≤ 0 ∧ (0 : Int32) < sI S 1 5)) = 1 := by
  rw [hF.2.1]
  rfl
section F2
variable {l : Launch} {D : va_G} {ad : Nat → Nat} {tc : Nat → ClassId} {L : Nat} {xs : Nat → Int32} {M : j_M} {d lo pc : Nat} {lv : j_L} {st : List Value} {h h' : j_H} {r : Option Value} {S : jS} {E : List j_C} {sl x : Nat}
theorem rn_topl {x y : Int64} (e : x = y) (k : Rn l D ad tc L xs M d lo pc lv (.long y :: st) h r h') : Rn l D ad tc L xs M d lo pc lv (.long x :: st) h r h' := e ▸ k
set_option maxRecDepth 20000 in
theorem x_mustBePair (hl : l.stackTraces = false) (hF : Fr S) {a b : Int32}  : Cx l D ad tc L xs mX9_mustBePair 10 300 [.ref 1, .int a, .int b] (wd S E, sl) 1 := by
  refine cx_of (lv0 := [(0, .ref 1), (1, .int a), (2, .int b)]) (by decide +kernel) (fun _ => by simp [lg_sl, j_v, Value.category]) (fun _ => rfl) ?_
  refine rn_aload_n dX9_mustBePair_0 rfl ?_
  refine rn_getfield dX9_mustBePair_1 fo_X9_12 h_SH rfl ?_
  refine rn_iload_n dX9_mustBePair_4 rfl ?_
  refine rn_callV dX9_mustBePair_5 cv_X9_85 c_X1_hasNode rfl h_chip rfl rfl (by decide) (by decide) rfl (Nat.le_of_ble_eq_true rfl) ?_
  refine rn_topi (y := 0) (no_node hF) ?_
  refine rn_if_eq (tgt := 26) dX9_mustBePair_8 rfl (fun _ => ?_) (fun q => absurd (by decide) q)
  refine rn_iconst (v := 0) dX9_mustBePair_26 rfl ?_
  exact rn_thruS dX9_mustBePair_27 cs_X9_51 (cx_mustExist hl) rfl (by decide) (by decide) rfl (Nat.le_of_ble_eq_true rfl) rfl
set_option maxRecDepth 20000 in
theorem x_clock (hl : l.stackTraces = false) (hF : Fr S) {a b c d : Int32} (hne : ¬ ((4 ≤ a ∧ a ≤ 40) ∧ (0 ≤ b ∧ b ≤ 40) ∧ (0 ≤ c ∧ c ≤ 20) ∧ (0 ≤ d ∧ d ≤ 1))) : Cx l D ad tc L xs mX9_clock 20 1000 [.ref 1, .int a, .int b, .int c, .int d] (wd S E, sl) 2 := by
  refine cx_of (lv0 := [(0, .ref 1), (1, .int a), (2, .int b), (3, .int c), (4, .int d)]) (by decide +kernel) (fun _ => by simp [lg_sl, j_v, Value.category]) (fun _ => rfl) ?_
  refine rn_aload_n dX9_clock_0 rfl ?_
  refine rn_aload_n dX9_clock_1 rfl ?_
  refine rn_getfield dX9_clock_2 fo_X9_12 h_SH rfl ?_
  refine rn_getfield dX9_clock_5 fo_X9_25 h_chip rfl ?_
  refine rn_topi (y := 0) hF.2.2.1 ?_
  refine rn_iconst (v := 4) dX9_clock_8 rfl ?_
  refine rn_icmp_ge (tgt := 16) dX9_clock_9 rfl (fun q => absurd q (by decide)) (fun _ => ?_)
  refine rn_iconst (v := 1) dX9_clock_12 rfl ?_
  refine rn_goto (tgt := 17) dX9_clock_13 rfl ?_
  refine rn_callV dX9_clock_17 cv_X9_29 (c_X9_mustBeOpen hF.2.2.2.2.1 (by decide)) rfl h_SH rfl rfl (by decide) (by decide) rfl (Nat.le_of_ble_eq_true rfl) ?_
  refine rn_iload_n dX9_clock_20 rfl ?_
  refine rn_iconst (v := 4) dX9_clock_21 rfl ?_
  refine rn_bipush (v := 40) dX9_clock_22 rfl ?_
  refine rn_callS dX9_clock_24 cs_X9_33 c_X9_isIn rfl (by decide) (by decide) rfl (Nat.le_of_ble_eq_true rfl) ?_
  refine rn_if_eq (tgt := 64) dX9_clock_27 rfl (fun q1 => ?_) (fun q1 => ?_)
  · refine rn_iconst (v := 0) dX9_clock_64 rfl ?_
    first | exact rn_thruS dX9_clock_65 cs_X9_37 (cx_mustFit hl) rfl (by decide) (by decide) rfl (Nat.le_of_ble_eq_true rfl) rfl | exact absurd ⟨of_decide_eq_true (bI_n.mp q1), of_decide_eq_true (bI_n.mp q2), of_decide_eq_true (bI_n.mp q3), of_decide_eq_true (bI_n.mp q4)⟩ hne
  · refine rn_iload_n dX9_clock_30 rfl ?_
    refine rn_iconst (v := 0) dX9_clock_31 rfl ?_
    refine rn_bipush (v := 40) dX9_clock_32 rfl ?_
    refine rn_callS dX9_clock_34 cs_X9_33 c_X9_isIn rfl (by decide) (by decide) rfl (Nat.le_of_ble_eq_true rfl) ?_
    refine rn_if_eq (tgt := 64) dX9_clock_37 rfl (fun q2 => ?_) (fun q2 => ?_)
    · refine rn_iconst (v := 0) dX9_clock_64 rfl ?_
      first | exact rn_thruS dX9_clock_65 cs_X9_37 (cx_mustFit hl) rfl (by decide) (by decide) rfl (Nat.le_of_ble_eq_true rfl) rfl | exact absurd ⟨of_decide_eq_true (bI_n.mp q1), of_decide_eq_true (bI_n.mp q2), of_decide_eq_true (bI_n.mp q3), of_decide_eq_true (bI_n.mp q4)⟩ hne
    · refine rn_iload_n dX9_clock_40 rfl ?_
      refine rn_iconst (v := 0) dX9_clock_41 rfl ?_
      refine rn_bipush (v := 20) dX9_clock_42 rfl ?_
      refine rn_callS dX9_clock_44 cs_X9_33 c_X9_isIn rfl (by decide) (by decide) rfl (Nat.le_of_ble_eq_true rfl) ?_
      refine rn_if_eq (tgt := 64) dX9_clock_47 rfl (fun q3 => ?_) (fun q3 => ?_)
      · refine rn_iconst (v := 0) dX9_clock_64 rfl ?_
        first | exact rn_thruS dX9_clock_65 cs_X9_37 (cx_mustFit hl) rfl (by decide) (by decide) rfl (Nat.le_of_ble_eq_true rfl) rfl | exact absurd ⟨of_decide_eq_true (bI_n.mp q1), of_decide_eq_true (bI_n.mp q2), of_decide_eq_true (bI_n.mp q3), of_decide_eq_true (bI_n.mp q4)⟩ hne
      · refine rn_iload dX9_clock_50 rfl ?_
        refine rn_iconst (v := 0) dX9_clock_52 rfl ?_
        refine rn_iconst (v := 1) dX9_clock_53 rfl ?_
        refine rn_callS dX9_clock_54 cs_X9_33 c_X9_isIn rfl (by decide) (by decide) rfl (Nat.le_of_ble_eq_true rfl) ?_
        refine rn_if_eq (tgt := 64) dX9_clock_57 rfl (fun q4 => ?_) (fun q4 => ?_)
        · refine rn_iconst (v := 0) dX9_clock_64 rfl ?_
          first | exact rn_thruS dX9_clock_65 cs_X9_37 (cx_mustFit hl) rfl (by decide) (by decide) rfl (Nat.le_of_ble_eq_true rfl) rfl | exact absurd ⟨of_decide_eq_true (bI_n.mp q1), of_decide_eq_true (bI_n.mp q2), of_decide_eq_true (bI_n.mp q3), of_decide_eq_true (bI_n.mp q4)⟩ hne
        · refine rn_iconst (v := 1) dX9_clock_60 rfl ?_
          refine rn_goto (tgt := 65) dX9_clock_61 rfl ?_
          first | exact rn_thruS dX9_clock_65 cs_X9_37 (cx_mustFit hl) rfl (by decide) (by decide) rfl (Nat.le_of_ble_eq_true rfl) rfl | exact absurd ⟨of_decide_eq_true (bI_n.mp q1), of_decide_eq_true (bI_n.mp q2), of_decide_eq_true (bI_n.mp q3), of_decide_eq_true (bI_n.mp q4)⟩ hne
set_option maxRecDepth 20000 in
theorem x_divide (hl : l.stackTraces = false) (hF : Fr S) {a b c : Int32}  : Cx l D ad tc L xs mX9_divide 20 1000 [.ref 1, .int a, .int b, .int c] (wd S E, sl) 1 := by
  refine cx_of (lv0 := [(0, .ref 1), (1, .int a), (2, .int b), (3, .int c)]) (by decide +kernel) (fun _ => by simp [lg_sl, j_v, Value.category]) (fun _ => rfl) ?_
  refine rn_aload_n dX9_divide_0 rfl ?_
  refine rn_aload_n dX9_divide_1 rfl ?_
  refine rn_getfield dX9_divide_2 fo_X9_12 h_SH rfl ?_
  refine rn_getfield dX9_divide_5 fo_X9_25 h_chip rfl ?_
  refine rn_topi (y := 0) hF.2.2.1 ?_
  refine rn_iconst (v := 4) dX9_divide_8 rfl ?_
  refine rn_icmp_ge (tgt := 16) dX9_divide_9 rfl (fun q => absurd q (by decide)) (fun _ => ?_)
  refine rn_iconst (v := 1) dX9_divide_12 rfl ?_
  refine rn_goto (tgt := 17) dX9_divide_13 rfl ?_
  refine rn_callV dX9_divide_17 cv_X9_29 (c_X9_mustBeOpen hF.2.2.2.2.1 (by decide)) rfl h_SH rfl rfl (by decide) (by decide) rfl (Nat.le_of_ble_eq_true rfl) ?_
  refine rn_aload_n dX9_divide_20 rfl ?_
  refine rn_getfield dX9_divide_21 fo_X9_12 h_SH rfl ?_
  refine rn_iload_n dX9_divide_24 rfl ?_
  refine rn_callV dX9_divide_25 cv_X9_47 c_X1_hasClock rfl h_chip rfl rfl (by decide) (by decide) rfl (Nat.le_of_ble_eq_true rfl) ?_
  refine rn_topi (y := 0) (no_clock hF) ?_
  exact rn_thruS dX9_divide_28 cs_X9_51 (cx_mustExist hl) rfl (by decide) (by decide) rfl (Nat.le_of_ble_eq_true rfl) rfl
set_option maxRecDepth 20000 in
theorem x_corner (hl : l.stackTraces = false) (hF : Fr S) {a b : Int32} (hne : ¬ ((8 ≤ a ∧ a ≤ 16) ∧ (1 ≤ b ∧ b ≤ 8))) : Cx l D ad tc L xs mX9_corner 20 1000 [.ref 1, .int a, .int b] (wd S E, sl) 2 := by
  refine cx_of (lv0 := [(0, .ref 1), (1, .int a), (2, .int b)]) (by decide +kernel) (fun _ => by simp [lg_sl, j_v, Value.category]) (fun _ => rfl) ?_
  refine rn_aload_n dX9_corner_0 rfl ?_
  refine rn_aload_n dX9_corner_1 rfl ?_
  refine rn_getfield dX9_corner_2 fo_X9_12 h_SH rfl ?_
  refine rn_getfield dX9_corner_5 fo_X9_75 h_chip rfl ?_
  refine rn_topi (y := 1) hF.2.1 ?_
  refine rn_iconst (v := 3) dX9_corner_8 rfl ?_
  refine rn_icmp_ge (tgt := 16) dX9_corner_9 rfl (fun q => absurd q (by decide)) (fun _ => ?_)
  refine rn_iconst (v := 1) dX9_corner_12 rfl ?_
  refine rn_goto (tgt := 17) dX9_corner_13 rfl ?_
  refine rn_callV dX9_corner_17 cv_X9_29 (c_X9_mustBeOpen hF.2.2.2.2.1 (by decide)) rfl h_SH rfl rfl (by decide) (by decide) rfl (Nat.le_of_ble_eq_true rfl) ?_
  refine rn_iload_n dX9_corner_20 rfl ?_
  refine rn_bipush (v := 8) dX9_corner_21 rfl ?_
  refine rn_bipush (v := 16) dX9_corner_23 rfl ?_
  refine rn_callS dX9_corner_25 cs_X9_33 c_X9_isIn rfl (by decide) (by decide) rfl (Nat.le_of_ble_eq_true rfl) ?_
  refine rn_if_eq (tgt := 45) dX9_corner_28 rfl (fun q1 => ?_) (fun q1 => ?_)
  · refine rn_iconst (v := 0) dX9_corner_45 rfl ?_
    first | exact rn_thruS dX9_corner_46 cs_X9_37 (cx_mustFit hl) rfl (by decide) (by decide) rfl (Nat.le_of_ble_eq_true rfl) rfl | exact absurd ⟨of_decide_eq_true (bI_n.mp q1), of_decide_eq_true (bI_n.mp q2)⟩ hne
  · refine rn_iload_n dX9_corner_31 rfl ?_
    refine rn_iconst (v := 1) dX9_corner_32 rfl ?_
    refine rn_bipush (v := 8) dX9_corner_33 rfl ?_
    refine rn_callS dX9_corner_35 cs_X9_33 c_X9_isIn rfl (by decide) (by decide) rfl (Nat.le_of_ble_eq_true rfl) ?_
    refine rn_if_eq (tgt := 45) dX9_corner_38 rfl (fun q2 => ?_) (fun q2 => ?_)
    · refine rn_iconst (v := 0) dX9_corner_45 rfl ?_
      first | exact rn_thruS dX9_corner_46 cs_X9_37 (cx_mustFit hl) rfl (by decide) (by decide) rfl (Nat.le_of_ble_eq_true rfl) rfl | exact absurd ⟨of_decide_eq_true (bI_n.mp q1), of_decide_eq_true (bI_n.mp q2)⟩ hne
    · refine rn_iconst (v := 1) dX9_corner_41 rfl ?_
      refine rn_goto (tgt := 46) dX9_corner_42 rfl ?_
      first | exact rn_thruS dX9_corner_46 cs_X9_37 (cx_mustFit hl) rfl (by decide) (by decide) rfl (Nat.le_of_ble_eq_true rfl) rfl | exact absurd ⟨of_decide_eq_true (bI_n.mp q1), of_decide_eq_true (bI_n.mp q2)⟩ hne
set_option maxRecDepth 20000 in
theorem x_node_0 (hl : l.stackTraces = false) (hF : Fr S) {b c d : Int32} : Cx l D ad tc L xs mX9_node 20 1000 [.ref 1, .int 0, .int b, .int c, .int d] (wd S E, sl) 1 := by
  refine cx_of (lv0 := [(0, .ref 1), (1, .int 0), (2, .int b), (3, .int c), (4, .int d)]) (by decide +kernel) (fun _ => by simp [lg_sl, j_v, Value.category]) (fun _ => rfl) ?_
  refine rn_aload_n dX9_node_0 rfl ?_
  refine rn_aload_n dX9_node_1 rfl ?_
  refine rn_getfield dX9_node_2 fo_X9_12 h_SH rfl ?_
  refine rn_getfield dX9_node_5 fo_X9_82 h_chip rfl ?_
  refine rn_topi (y := 0) hF.1 ?_
  refine rn_bipush (v := 16) dX9_node_8 rfl ?_
  refine rn_icmp_ge (tgt := 17) dX9_node_10 rfl (fun q => absurd q (by decide)) (fun _ => ?_)
  refine rn_iconst (v := 1) dX9_node_13 rfl ?_
  refine rn_goto (tgt := 18) dX9_node_14 rfl ?_
  refine rn_callV dX9_node_18 cv_X9_29 (c_X9_mustBeOpen hF.2.2.2.2.1 (by decide)) rfl h_SH rfl rfl (by decide) (by decide) rfl (Nat.le_of_ble_eq_true rfl) ?_
  refine rn_iload_n dX9_node_21 rfl ?_
  refine rn_iconst (v := 1) dX9_node_22 rfl ?_
  refine rn_iconst (v := 5) dX9_node_23 rfl ?_
  refine rn_callS dX9_node_24 cs_X9_33 c_X9_isIn rfl (by decide) (by decide) rfl (Nat.le_of_ble_eq_true rfl) ?_
  refine rn_topi (y := 0) (by decide) ?_
  refine rn_if_ne (tgt := 42) dX9_node_27 rfl (fun q => absurd (by decide) q) (fun _ => ?_)
  refine rn_iload_n dX9_node_30 rfl ?_
  refine rn_bipush (v := 7) dX9_node_31 rfl ?_
  refine rn_icmp_eq (tgt := 42) dX9_node_33 rfl (fun q => absurd q (by decide)) (fun _ => ?_)
  refine rn_iload_n dX9_node_36 rfl ?_
  refine rn_bipush (v := 8) dX9_node_37 rfl ?_
  refine rn_icmp_ne (tgt := 46) dX9_node_39 rfl (fun _ => ?_) (fun q => absurd q (by decide))
  refine rn_iconst (v := 0) dX9_node_46 rfl ?_
  refine rn_istore dX9_node_47 (by decide) rfl ?_
  refine rn_iload_n dX9_node_49 rfl ?_
  refine rn_iconst (v := 3) dX9_node_50 rfl ?_
  refine rn_iconst (v := 5) dX9_node_51 rfl ?_
  refine rn_callS dX9_node_52 cs_X9_33 c_X9_isIn rfl (by decide) (by decide) rfl (Nat.le_of_ble_eq_true rfl) ?_
  refine rn_topi (y := 0) (by decide) ?_
  refine rn_istore dX9_node_55 (by decide) rfl ?_
  refine rn_iload_n dX9_node_57 rfl ?_
  refine rn_if_eq (tgt := 72) dX9_node_58 rfl (fun _ => ?_) (fun q => absurd (by decide) q)
  refine rn_iconst (v := 1) dX9_node_72 rfl ?_
  refine rn_goto (tgt := 77) dX9_node_73 rfl ?_
  refine rn_istore dX9_node_77 (by decide) rfl ?_
  refine rn_iload dX9_node_79 rfl ?_
  refine rn_if_eq (tgt := 95) dX9_node_81 rfl (fun _ => ?_) (fun q => absurd (by decide) q)
  refine rn_iload dX9_node_95 rfl ?_
  refine rn_if_eq (tgt := 111) dX9_node_97 rfl (fun _ => ?_) (fun q => absurd (by decide) q)
  refine rn_iload dX9_node_111 rfl ?_
  refine rn_if_eq (tgt := 128) dX9_node_113 rfl (fun q => absurd q (by decide)) (fun _ => ?_)
  refine rn_aload_n dX9_node_116 rfl ?_
  refine rn_getfield dX9_node_117 fo_X9_12 h_SH rfl ?_
  refine rn_iload dX9_node_120 rfl ?_
  refine rn_callV dX9_node_122 cv_X9_47 c_X1_hasClock rfl h_chip rfl rfl (by decide) (by decide) rfl (Nat.le_of_ble_eq_true rfl) ?_
  refine rn_topi (y := 0) (no_clock hF) ?_
  refine rn_if_eq (tgt := 132) dX9_node_125 rfl (fun _ => ?_) (fun q => absurd (by decide) q)
  refine rn_iconst (v := 0) dX9_node_132 rfl ?_
  exact rn_thruS dX9_node_133 cs_X9_51 (cx_mustExist hl) rfl (by decide) (by decide) rfl (Nat.le_of_ble_eq_true rfl) rfl
set_option maxRecDepth 20000 in
theorem x_node_1 (hl : l.stackTraces = false) (hF : Fr S) {b c d : Int32} : Cx l D ad tc L xs mX9_node 20 1000 [.ref 1, .int 1, .int b, .int c, .int d] (wd S E, sl) 1 := by
  refine cx_of (lv0 := [(0, .ref 1), (1, .int 1), (2, .int b), (3, .int c), (4, .int d)]) (by decide +kernel) (fun _ => by simp [lg_sl, j_v, Value.category]) (fun _ => rfl) ?_
  refine rn_aload_n dX9_node_0 rfl ?_
  refine rn_aload_n dX9_node_1 rfl ?_
  refine rn_getfield dX9_node_2 fo_X9_12 h_SH rfl ?_
  refine rn_getfield dX9_node_5 fo_X9_82 h_chip rfl ?_
  refine rn_topi (y := 0) hF.1 ?_
  refine rn_bipush (v := 16) dX9_node_8 rfl ?_
  refine rn_icmp_ge (tgt := 17) dX9_node_10 rfl (fun q => absurd q (by decide)) (fun _ => ?_)
  refine rn_iconst (v := 1) dX9_node_13 rfl ?_
  refine rn_goto (tgt := 18) dX9_node_14 rfl ?_
  refine rn_callV dX9_node_18 cv_X9_29 (c_X9_mustBeOpen hF.2.2.2.2.1 (by decide)) rfl h_SH rfl rfl (by decide) (by decide) rfl (Nat.le_of_ble_eq_true rfl) ?_
  refine rn_iload_n dX9_node_21 rfl ?_
  refine rn_iconst (v := 1) dX9_node_22 rfl ?_
  refine rn_iconst (v := 5) dX9_node_23 rfl ?_
  refine rn_callS dX9_node_24 cs_X9_33 c_X9_isIn rfl (by decide) (by decide) rfl (Nat.le_of_ble_eq_true rfl) ?_
  refine rn_topi (y := 1) (by decide) ?_
  refine rn_if_ne (tgt := 42) dX9_node_27 rfl (fun _ => ?_) (fun q => absurd q (by decide))
  refine rn_iconst (v := 1) dX9_node_42 rfl ?_
  refine rn_goto (tgt := 47) dX9_node_43 rfl ?_
  refine rn_istore dX9_node_47 (by decide) rfl ?_
  refine rn_iload_n dX9_node_49 rfl ?_
  refine rn_iconst (v := 3) dX9_node_50 rfl ?_
  refine rn_iconst (v := 5) dX9_node_51 rfl ?_
  refine rn_callS dX9_node_52 cs_X9_33 c_X9_isIn rfl (by decide) (by decide) rfl (Nat.le_of_ble_eq_true rfl) ?_
  refine rn_topi (y := 0) (by decide) ?_
  refine rn_istore dX9_node_55 (by decide) rfl ?_
  refine rn_iload_n dX9_node_57 rfl ?_
  refine rn_if_eq (tgt := 72) dX9_node_58 rfl (fun q => absurd q (by decide)) (fun _ => ?_)
  refine rn_iload_n dX9_node_61 rfl ?_
  refine rn_bipush (v := 6) dX9_node_62 rfl ?_
  refine rn_bipush (v := 8) dX9_node_64 rfl ?_
  refine rn_callS dX9_node_66 cs_X9_33 c_X9_isIn rfl (by decide) (by decide) rfl (Nat.le_of_ble_eq_true rfl) ?_
  refine rn_topi (y := 0) (by decide) ?_
  refine rn_if_eq (tgt := 76) dX9_node_69 rfl (fun _ => ?_) (fun q => absurd (by decide) q)
  refine rn_iconst (v := 0) dX9_node_76 rfl ?_
  refine rn_istore dX9_node_77 (by decide) rfl ?_
  refine rn_iload dX9_node_79 rfl ?_
  refine rn_if_eq (tgt := 95) dX9_node_81 rfl (fun q => absurd q (by decide)) (fun _ => ?_)
  refine rn_aload_n dX9_node_84 rfl ?_
  refine rn_getfield dX9_node_85 fo_X9_12 h_SH rfl ?_
  refine rn_iload_n dX9_node_88 rfl ?_
  refine rn_callV dX9_node_89 cv_X9_85 c_X1_hasNode rfl h_chip rfl rfl (by decide) (by decide) rfl (Nat.le_of_ble_eq_true rfl) ?_
  refine rn_topi (y := 0) (no_node hF) ?_
  refine rn_if_eq (tgt := 132) dX9_node_92 rfl (fun _ => ?_) (fun q => absurd (by decide) q)
  refine rn_iconst (v := 0) dX9_node_132 rfl ?_
  exact rn_thruS dX9_node_133 cs_X9_51 (cx_mustExist hl) rfl (by decide) (by decide) rfl (Nat.le_of_ble_eq_true rfl) rfl
set_option maxRecDepth 20000 in
theorem x_node_2 (hl : l.stackTraces = false) (hF : Fr S) {b c d : Int32} : Cx l D ad tc L xs mX9_node 20 1000 [.ref 1, .int 2, .int b, .int c, .int d] (wd S E, sl) 1 := by
  refine cx_of (lv0 := [(0, .ref 1), (1, .int 2), (2, .int b), (3, .int c), (4, .int d)]) (by decide +kernel) (fun _ => by simp [lg_sl, j_v, Value.category]) (fun _ => rfl) ?_
  refine rn_aload_n dX9_node_0 rfl ?_
  refine rn_aload_n dX9_node_1 rfl ?_
  refine rn_getfield dX9_node_2 fo_X9_12 h_SH rfl ?_
  refine rn_getfield dX9_node_5 fo_X9_82 h_chip rfl ?_
  refine rn_topi (y := 0) hF.1 ?_
  refine rn_bipush (v := 16) dX9_node_8 rfl ?_
  refine rn_icmp_ge (tgt := 17) dX9_node_10 rfl (fun q => absurd q (by decide)) (fun _ => ?_)
  refine rn_iconst (v := 1) dX9_node_13 rfl ?_
  refine rn_goto (tgt := 18) dX9_node_14 rfl ?_
  refine rn_callV dX9_node_18 cv_X9_29 (c_X9_mustBeOpen hF.2.2.2.2.1 (by decide)) rfl h_SH rfl rfl (by decide) (by decide) rfl (Nat.le_of_ble_eq_true rfl) ?_
  refine rn_iload_n dX9_node_21 rfl ?_
  refine rn_iconst (v := 1) dX9_node_22 rfl ?_
  refine rn_iconst (v := 5) dX9_node_23 rfl ?_
  refine rn_callS dX9_node_24 cs_X9_33 c_X9_isIn rfl (by decide) (by decide) rfl (Nat.le_of_ble_eq_true rfl) ?_
  refine rn_topi (y := 1) (by decide) ?_
  refine rn_if_ne (tgt := 42) dX9_node_27 rfl (fun _ => ?_) (fun q => absurd q (by decide))
  refine rn_iconst (v := 1) dX9_node_42 rfl ?_
  refine rn_goto (tgt := 47) dX9_node_43 rfl ?_
  refine rn_istore dX9_node_47 (by decide) rfl ?_
  refine rn_iload_n dX9_node_49 rfl ?_
  refine rn_iconst (v := 3) dX9_node_50 rfl ?_
  refine rn_iconst (v := 5) dX9_node_51 rfl ?_
  refine rn_callS dX9_node_52 cs_X9_33 c_X9_isIn rfl (by decide) (by decide) rfl (Nat.le_of_ble_eq_true rfl) ?_
  refine rn_topi (y := 0) (by decide) ?_
  refine rn_istore dX9_node_55 (by decide) rfl ?_
  refine rn_iload_n dX9_node_57 rfl ?_
  refine rn_if_eq (tgt := 72) dX9_node_58 rfl (fun q => absurd q (by decide)) (fun _ => ?_)
  refine rn_iload_n dX9_node_61 rfl ?_
  refine rn_bipush (v := 6) dX9_node_62 rfl ?_
  refine rn_bipush (v := 8) dX9_node_64 rfl ?_
  refine rn_callS dX9_node_66 cs_X9_33 c_X9_isIn rfl (by decide) (by decide) rfl (Nat.le_of_ble_eq_true rfl) ?_
  refine rn_topi (y := 0) (by decide) ?_
  refine rn_if_eq (tgt := 76) dX9_node_69 rfl (fun _ => ?_) (fun q => absurd (by decide) q)
  refine rn_iconst (v := 0) dX9_node_76 rfl ?_
  refine rn_istore dX9_node_77 (by decide) rfl ?_
  refine rn_iload dX9_node_79 rfl ?_
  refine rn_if_eq (tgt := 95) dX9_node_81 rfl (fun q => absurd q (by decide)) (fun _ => ?_)
  refine rn_aload_n dX9_node_84 rfl ?_
  refine rn_getfield dX9_node_85 fo_X9_12 h_SH rfl ?_
  refine rn_iload_n dX9_node_88 rfl ?_
  refine rn_callV dX9_node_89 cv_X9_85 c_X1_hasNode rfl h_chip rfl rfl (by decide) (by decide) rfl (Nat.le_of_ble_eq_true rfl) ?_
  refine rn_topi (y := 0) (no_node hF) ?_
  refine rn_if_eq (tgt := 132) dX9_node_92 rfl (fun _ => ?_) (fun q => absurd (by decide) q)
  refine rn_iconst (v := 0) dX9_node_132 rfl ?_
  exact rn_thruS dX9_node_133 cs_X9_51 (cx_mustExist hl) rfl (by decide) (by decide) rfl (Nat.le_of_ble_eq_true rfl) rfl
set_option maxRecDepth 20000 in
theorem x_node_3 (hl : l.stackTraces = false) (hF : Fr S) {b c d : Int32} : Cx l D ad tc L xs mX9_node 20 1000 [.ref 1, .int 3, .int b, .int c, .int d] (wd S E, sl) 1 := by
  refine cx_of (lv0 := [(0, .ref 1), (1, .int 3), (2, .int b), (3, .int c), (4, .int d)]) (by decide +kernel) (fun _ => by simp [lg_sl, j_v, Value.category]) (fun _ => rfl) ?_
  refine rn_aload_n dX9_node_0 rfl ?_
  refine rn_aload_n dX9_node_1 rfl ?_
  refine rn_getfield dX9_node_2 fo_X9_12 h_SH rfl ?_
  refine rn_getfield dX9_node_5 fo_X9_82 h_chip rfl ?_
  refine rn_topi (y := 0) hF.1 ?_
  refine rn_bipush (v := 16) dX9_node_8 rfl ?_
  refine rn_icmp_ge (tgt := 17) dX9_node_10 rfl (fun q => absurd q (by decide)) (fun _ => ?_)
  refine rn_iconst (v := 1) dX9_node_13 rfl ?_
  refine rn_goto (tgt := 18) dX9_node_14 rfl ?_
  refine rn_callV dX9_node_18 cv_X9_29 (c_X9_mustBeOpen hF.2.2.2.2.1 (by decide)) rfl h_SH rfl rfl (by decide) (by decide) rfl (Nat.le_of_ble_eq_true rfl) ?_
  refine rn_iload_n dX9_node_21 rfl ?_
  refine rn_iconst (v := 1) dX9_node_22 rfl ?_
  refine rn_iconst (v := 5) dX9_node_23 rfl ?_
  refine rn_callS dX9_node_24 cs_X9_33 c_X9_isIn rfl (by decide) (by decide) rfl (Nat.le_of_ble_eq_true rfl) ?_
  refine rn_topi (y := 1) (by decide) ?_
  refine rn_if_ne (tgt := 42) dX9_node_27 rfl (fun _ => ?_) (fun q => absurd q (by decide))
  refine rn_iconst (v := 1) dX9_node_42 rfl ?_
  refine rn_goto (tgt := 47) dX9_node_43 rfl ?_
  refine rn_istore dX9_node_47 (by decide) rfl ?_
  refine rn_iload_n dX9_node_49 rfl ?_
  refine rn_iconst (v := 3) dX9_node_50 rfl ?_
  refine rn_iconst (v := 5) dX9_node_51 rfl ?_
  refine rn_callS dX9_node_52 cs_X9_33 c_X9_isIn rfl (by decide) (by decide) rfl (Nat.le_of_ble_eq_true rfl) ?_
  refine rn_topi (y := 1) (by decide) ?_
  refine rn_istore dX9_node_55 (by decide) rfl ?_
  refine rn_iload_n dX9_node_57 rfl ?_
  refine rn_if_eq (tgt := 72) dX9_node_58 rfl (fun q => absurd q (by decide)) (fun _ => ?_)
  refine rn_iload_n dX9_node_61 rfl ?_
  refine rn_bipush (v := 6) dX9_node_62 rfl ?_
  refine rn_bipush (v := 8) dX9_node_64 rfl ?_
  refine rn_callS dX9_node_66 cs_X9_33 c_X9_isIn rfl (by decide) (by decide) rfl (Nat.le_of_ble_eq_true rfl) ?_
  refine rn_topi (y := 0) (by decide) ?_
  refine rn_if_eq (tgt := 76) dX9_node_69 rfl (fun _ => ?_) (fun q => absurd (by decide) q)
  refine rn_iconst (v := 0) dX9_node_76 rfl ?_
  refine rn_istore dX9_node_77 (by decide) rfl ?_
  refine rn_iload dX9_node_79 rfl ?_
  refine rn_if_eq (tgt := 95) dX9_node_81 rfl (fun q => absurd q (by decide)) (fun _ => ?_)
  refine rn_aload_n dX9_node_84 rfl ?_
  refine rn_getfield dX9_node_85 fo_X9_12 h_SH rfl ?_
  refine rn_iload_n dX9_node_88 rfl ?_
  refine rn_callV dX9_node_89 cv_X9_85 c_X1_hasNode rfl h_chip rfl rfl (by decide) (by decide) rfl (Nat.le_of_ble_eq_true rfl) ?_
  refine rn_topi (y := 0) (no_node hF) ?_
  refine rn_if_eq (tgt := 132) dX9_node_92 rfl (fun _ => ?_) (fun q => absurd (by decide) q)
  refine rn_iconst (v := 0) dX9_node_132 rfl ?_
  exact rn_thruS dX9_node_133 cs_X9_51 (cx_mustExist hl) rfl (by decide) (by decide) rfl (Nat.le_of_ble_eq_true rfl) rfl
set_option maxRecDepth 20000 in
theorem x_node_4 (hl : l.stackTraces = false) (hF : Fr S) {b c d : Int32} : Cx l D ad tc L xs mX9_node 20 1000 [.ref 1, .int 4, .int b, .int c, .int d] (wd S E, sl) 1 := by
  refine cx_of (lv0 := [(0, .ref 1), (1, .int 4), (2, .int b), (3, .int c), (4, .int d)]) (by decide +kernel) (fun _ => by simp [lg_sl, j_v, Value.category]) (fun _ => rfl) ?_
  refine rn_aload_n dX9_node_0 rfl ?_
  refine rn_aload_n dX9_node_1 rfl ?_
  refine rn_getfield dX9_node_2 fo_X9_12 h_SH rfl ?_
  refine rn_getfield dX9_node_5 fo_X9_82 h_chip rfl ?_
  refine rn_topi (y := 0) hF.1 ?_
  refine rn_bipush (v := 16) dX9_node_8 rfl ?_
  refine rn_icmp_ge (tgt := 17) dX9_node_10 rfl (fun q => absurd q (by decide)) (fun _ => ?_)
  refine rn_iconst (v := 1) dX9_node_13 rfl ?_
  refine rn_goto (tgt := 18) dX9_node_14 rfl ?_
  refine rn_callV dX9_node_18 cv_X9_29 (c_X9_mustBeOpen hF.2.2.2.2.1 (by decide)) rfl h_SH rfl rfl (by decide) (by decide) rfl (Nat.le_of_ble_eq_true rfl) ?_
  refine rn_iload_n dX9_node_21 rfl ?_
  refine rn_iconst (v := 1) dX9_node_22 rfl ?_
  refine rn_iconst (v := 5) dX9_node_23 rfl ?_
  refine rn_callS dX9_node_24 cs_X9_33 c_X9_isIn rfl (by decide) (by decide) rfl (Nat.le_of_ble_eq_true rfl) ?_
  refine rn_topi (y := 1) (by decide) ?_
  refine rn_if_ne (tgt := 42) dX9_node_27 rfl (fun _ => ?_) (fun q => absurd q (by decide))
  refine rn_iconst (v := 1) dX9_node_42 rfl ?_
  refine rn_goto (tgt := 47) dX9_node_43 rfl ?_
  refine rn_istore dX9_node_47 (by decide) rfl ?_
  refine rn_iload_n dX9_node_49 rfl ?_
  refine rn_iconst (v := 3) dX9_node_50 rfl ?_
  refine rn_iconst (v := 5) dX9_node_51 rfl ?_
  refine rn_callS dX9_node_52 cs_X9_33 c_X9_isIn rfl (by decide) (by decide) rfl (Nat.le_of_ble_eq_true rfl) ?_
  refine rn_topi (y := 1) (by decide) ?_
  refine rn_istore dX9_node_55 (by decide) rfl ?_
  refine rn_iload_n dX9_node_57 rfl ?_
  refine rn_if_eq (tgt := 72) dX9_node_58 rfl (fun q => absurd q (by decide)) (fun _ => ?_)
  refine rn_iload_n dX9_node_61 rfl ?_
  refine rn_bipush (v := 6) dX9_node_62 rfl ?_
  refine rn_bipush (v := 8) dX9_node_64 rfl ?_
  refine rn_callS dX9_node_66 cs_X9_33 c_X9_isIn rfl (by decide) (by decide) rfl (Nat.le_of_ble_eq_true rfl) ?_
  refine rn_topi (y := 0) (by decide) ?_
  refine rn_if_eq (tgt := 76) dX9_node_69 rfl (fun _ => ?_) (fun q => absurd (by decide) q)
  refine rn_iconst (v := 0) dX9_node_76 rfl ?_
  refine rn_istore dX9_node_77 (by decide) rfl ?_
  refine rn_iload dX9_node_79 rfl ?_
  refine rn_if_eq (tgt := 95) dX9_node_81 rfl (fun q => absurd q (by decide)) (fun _ => ?_)
  refine rn_aload_n dX9_node_84 rfl ?_
  refine rn_getfield dX9_node_85 fo_X9_12 h_SH rfl ?_
  refine rn_iload_n dX9_node_88 rfl ?_
  refine rn_callV dX9_node_89 cv_X9_85 c_X1_hasNode rfl h_chip rfl rfl (by decide) (by decide) rfl (Nat.le_of_ble_eq_true rfl) ?_
  refine rn_topi (y := 0) (no_node hF) ?_
  refine rn_if_eq (tgt := 132) dX9_node_92 rfl (fun _ => ?_) (fun q => absurd (by decide) q)
  refine rn_iconst (v := 0) dX9_node_132 rfl ?_
  exact rn_thruS dX9_node_133 cs_X9_51 (cx_mustExist hl) rfl (by decide) (by decide) rfl (Nat.le_of_ble_eq_true rfl) rfl
set_option maxRecDepth 20000 in
theorem x_node_5 (hl : l.stackTraces = false) (hF : Fr S) {b c d : Int32} : Cx l D ad tc L xs mX9_node 20 1000 [.ref 1, .int 5, .int b, .int c, .int d] (wd S E, sl) 1 := by
  refine cx_of (lv0 := [(0, .ref 1), (1, .int 5), (2, .int b), (3, .int c), (4, .int d)]) (by decide +kernel) (fun _ => by simp [lg_sl, j_v, Value.category]) (fun _ => rfl) ?_
  refine rn_aload_n dX9_node_0 rfl ?_
  refine rn_aload_n dX9_node_1 rfl ?_
  refine rn_getfield dX9_node_2 fo_X9_12 h_SH rfl ?_
  refine rn_getfield dX9_node_5 fo_X9_82 h_chip rfl ?_
  refine rn_topi (y := 0) hF.1 ?_
  refine rn_bipush (v := 16) dX9_node_8 rfl ?_
  refine rn_icmp_ge (tgt := 17) dX9_node_10 rfl (fun q => absurd q (by decide)) (fun _ => ?_)
  refine rn_iconst (v := 1) dX9_node_13 rfl ?_
  refine rn_goto (tgt := 18) dX9_node_14 rfl ?_
  refine rn_callV dX9_node_18 cv_X9_29 (c_X9_mustBeOpen hF.2.2.2.2.1 (by decide)) rfl h_SH rfl rfl (by decide) (by decide) rfl (Nat.le_of_ble_eq_true rfl) ?_
  refine rn_iload_n dX9_node_21 rfl ?_
  refine rn_iconst (v := 1) dX9_node_22 rfl ?_
  refine rn_iconst (v := 5) dX9_node_23 rfl ?_
  refine rn_callS dX9_node_24 cs_X9_33 c_X9_isIn rfl (by decide) (by decide) rfl (Nat.le_of_ble_eq_true rfl) ?_
  refine rn_topi (y := 1) (by decide) ?_
  refine rn_if_ne (tgt := 42) dX9_node_27 rfl (fun _ => ?_) (fun q => absurd q (by decide))
  refine rn_iconst (v := 1) dX9_node_42 rfl ?_
  refine rn_goto (tgt := 47) dX9_node_43 rfl ?_
  refine rn_istore dX9_node_47 (by decide) rfl ?_
  refine rn_iload_n dX9_node_49 rfl ?_
  refine rn_iconst (v := 3) dX9_node_50 rfl ?_
  refine rn_iconst (v := 5) dX9_node_51 rfl ?_
  refine rn_callS dX9_node_52 cs_X9_33 c_X9_isIn rfl (by decide) (by decide) rfl (Nat.le_of_ble_eq_true rfl) ?_
  refine rn_topi (y := 1) (by decide) ?_
  refine rn_istore dX9_node_55 (by decide) rfl ?_
  refine rn_iload_n dX9_node_57 rfl ?_
  refine rn_if_eq (tgt := 72) dX9_node_58 rfl (fun q => absurd q (by decide)) (fun _ => ?_)
  refine rn_iload_n dX9_node_61 rfl ?_
  refine rn_bipush (v := 6) dX9_node_62 rfl ?_
  refine rn_bipush (v := 8) dX9_node_64 rfl ?_
  refine rn_callS dX9_node_66 cs_X9_33 c_X9_isIn rfl (by decide) (by decide) rfl (Nat.le_of_ble_eq_true rfl) ?_
  refine rn_topi (y := 0) (by decide) ?_
  refine rn_if_eq (tgt := 76) dX9_node_69 rfl (fun _ => ?_) (fun q => absurd (by decide) q)
  refine rn_iconst (v := 0) dX9_node_76 rfl ?_
  refine rn_istore dX9_node_77 (by decide) rfl ?_
  refine rn_iload dX9_node_79 rfl ?_
  refine rn_if_eq (tgt := 95) dX9_node_81 rfl (fun q => absurd q (by decide)) (fun _ => ?_)
  refine rn_aload_n dX9_node_84 rfl ?_
  refine rn_getfield dX9_node_85 fo_X9_12 h_SH rfl ?_
  refine rn_iload_n dX9_node_88 rfl ?_
  refine rn_callV dX9_node_89 cv_X9_85 c_X1_hasNode rfl h_chip rfl rfl (by decide) (by decide) rfl (Nat.le_of_ble_eq_true rfl) ?_
  refine rn_topi (y := 0) (no_node hF) ?_
  refine rn_if_eq (tgt := 132) dX9_node_92 rfl (fun _ => ?_) (fun q => absurd (by decide) q)
  refine rn_iconst (v := 0) dX9_node_132 rfl ?_
  exact rn_thruS dX9_node_133 cs_X9_51 (cx_mustExist hl) rfl (by decide) (by decide) rfl (Nat.le_of_ble_eq_true rfl) rfl
set_option maxRecDepth 20000 in
theorem x_node_6 (hl : l.stackTraces = false) (hF : Fr S) {b c d : Int32} : Cx l D ad tc L xs mX9_node 20 1000 [.ref 1, .int 6, .int b, .int c, .int d] (wd S E, sl) 1 := by
  refine cx_of (lv0 := [(0, .ref 1), (1, .int 6), (2, .int b), (3, .int c), (4, .int d)]) (by decide +kernel) (fun _ => by simp [lg_sl, j_v, Value.category]) (fun _ => rfl) ?_
  refine rn_aload_n dX9_node_0 rfl ?_
  refine rn_aload_n dX9_node_1 rfl ?_
  refine rn_getfield dX9_node_2 fo_X9_12 h_SH rfl ?_
  refine rn_getfield dX9_node_5 fo_X9_82 h_chip rfl ?_
  refine rn_topi (y := 0) hF.1 ?_
  refine rn_bipush (v := 16) dX9_node_8 rfl ?_
  refine rn_icmp_ge (tgt := 17) dX9_node_10 rfl (fun q => absurd q (by decide)) (fun _ => ?_)
  refine rn_iconst (v := 1) dX9_node_13 rfl ?_
  refine rn_goto (tgt := 18) dX9_node_14 rfl ?_
  refine rn_callV dX9_node_18 cv_X9_29 (c_X9_mustBeOpen hF.2.2.2.2.1 (by decide)) rfl h_SH rfl rfl (by decide) (by decide) rfl (Nat.le_of_ble_eq_true rfl) ?_
  refine rn_iload_n dX9_node_21 rfl ?_
  refine rn_iconst (v := 1) dX9_node_22 rfl ?_
  refine rn_iconst (v := 5) dX9_node_23 rfl ?_
  refine rn_callS dX9_node_24 cs_X9_33 c_X9_isIn rfl (by decide) (by decide) rfl (Nat.le_of_ble_eq_true rfl) ?_
  refine rn_topi (y := 0) (by decide) ?_
  refine rn_if_ne (tgt := 42) dX9_node_27 rfl (fun q => absurd (by decide) q) (fun _ => ?_)
  refine rn_iload_n dX9_node_30 rfl ?_
  refine rn_bipush (v := 7) dX9_node_31 rfl ?_
  refine rn_icmp_eq (tgt := 42) dX9_node_33 rfl (fun q => absurd q (by decide)) (fun _ => ?_)
  refine rn_iload_n dX9_node_36 rfl ?_
  refine rn_bipush (v := 8) dX9_node_37 rfl ?_
  refine rn_icmp_ne (tgt := 46) dX9_node_39 rfl (fun _ => ?_) (fun q => absurd q (by decide))
  refine rn_iconst (v := 0) dX9_node_46 rfl ?_
  refine rn_istore dX9_node_47 (by decide) rfl ?_
  refine rn_iload_n dX9_node_49 rfl ?_
  refine rn_iconst (v := 3) dX9_node_50 rfl ?_
  refine rn_iconst (v := 5) dX9_node_51 rfl ?_
  refine rn_callS dX9_node_52 cs_X9_33 c_X9_isIn rfl (by decide) (by decide) rfl (Nat.le_of_ble_eq_true rfl) ?_
  refine rn_topi (y := 0) (by decide) ?_
  refine rn_istore dX9_node_55 (by decide) rfl ?_
  refine rn_iload_n dX9_node_57 rfl ?_
  refine rn_if_eq (tgt := 72) dX9_node_58 rfl (fun q => absurd q (by decide)) (fun _ => ?_)
  refine rn_iload_n dX9_node_61 rfl ?_
  refine rn_bipush (v := 6) dX9_node_62 rfl ?_
  refine rn_bipush (v := 8) dX9_node_64 rfl ?_
  refine rn_callS dX9_node_66 cs_X9_33 c_X9_isIn rfl (by decide) (by decide) rfl (Nat.le_of_ble_eq_true rfl) ?_
  refine rn_topi (y := 1) (by decide) ?_
  refine rn_if_eq (tgt := 76) dX9_node_69 rfl (fun q => absurd q (by decide)) (fun _ => ?_)
  refine rn_iconst (v := 1) dX9_node_72 rfl ?_
  refine rn_goto (tgt := 77) dX9_node_73 rfl ?_
  refine rn_istore dX9_node_77 (by decide) rfl ?_
  refine rn_iload dX9_node_79 rfl ?_
  refine rn_if_eq (tgt := 95) dX9_node_81 rfl (fun _ => ?_) (fun q => absurd (by decide) q)
  refine rn_iload dX9_node_95 rfl ?_
  refine rn_if_eq (tgt := 111) dX9_node_97 rfl (fun _ => ?_) (fun q => absurd (by decide) q)
  refine rn_iload dX9_node_111 rfl ?_
  refine rn_if_eq (tgt := 128) dX9_node_113 rfl (fun q => absurd q (by decide)) (fun _ => ?_)
  refine rn_aload_n dX9_node_116 rfl ?_
  refine rn_getfield dX9_node_117 fo_X9_12 h_SH rfl ?_
  refine rn_iload dX9_node_120 rfl ?_
  refine rn_callV dX9_node_122 cv_X9_47 c_X1_hasClock rfl h_chip rfl rfl (by decide) (by decide) rfl (Nat.le_of_ble_eq_true rfl) ?_
  refine rn_topi (y := 0) (no_clock hF) ?_
  refine rn_if_eq (tgt := 132) dX9_node_125 rfl (fun _ => ?_) (fun q => absurd (by decide) q)
  refine rn_iconst (v := 0) dX9_node_132 rfl ?_
  exact rn_thruS dX9_node_133 cs_X9_51 (cx_mustExist hl) rfl (by decide) (by decide) rfl (Nat.le_of_ble_eq_true rfl) rfl
set_option maxRecDepth 20000 in
theorem x_node_7 (hl : l.stackTraces = false) (hF : Fr S) {b c d : Int32} : Cx l D ad tc L xs mX9_node 20 1000 [.ref 1, .int 7, .int b, .int c, .int d] (wd S E, sl) 1 := by
  refine cx_of (lv0 := [(0, .ref 1), (1, .int 7), (2, .int b), (3, .int c), (4, .int d)]) (by decide +kernel) (fun _ => by simp [lg_sl, j_v, Value.category]) (fun _ => rfl) ?_
  refine rn_aload_n dX9_node_0 rfl ?_
  refine rn_aload_n dX9_node_1 rfl ?_
  refine rn_getfield dX9_node_2 fo_X9_12 h_SH rfl ?_
  refine rn_getfield dX9_node_5 fo_X9_82 h_chip rfl ?_
  refine rn_topi (y := 0) hF.1 ?_
  refine rn_bipush (v := 16) dX9_node_8 rfl ?_
  refine rn_icmp_ge (tgt := 17) dX9_node_10 rfl (fun q => absurd q (by decide)) (fun _ => ?_)
  refine rn_iconst (v := 1) dX9_node_13 rfl ?_
  refine rn_goto (tgt := 18) dX9_node_14 rfl ?_
  refine rn_callV dX9_node_18 cv_X9_29 (c_X9_mustBeOpen hF.2.2.2.2.1 (by decide)) rfl h_SH rfl rfl (by decide) (by decide) rfl (Nat.le_of_ble_eq_true rfl) ?_
  refine rn_iload_n dX9_node_21 rfl ?_
  refine rn_iconst (v := 1) dX9_node_22 rfl ?_
  refine rn_iconst (v := 5) dX9_node_23 rfl ?_
  refine rn_callS dX9_node_24 cs_X9_33 c_X9_isIn rfl (by decide) (by decide) rfl (Nat.le_of_ble_eq_true rfl) ?_
  refine rn_topi (y := 0) (by decide) ?_
  refine rn_if_ne (tgt := 42) dX9_node_27 rfl (fun q => absurd (by decide) q) (fun _ => ?_)
  refine rn_iload_n dX9_node_30 rfl ?_
  refine rn_bipush (v := 7) dX9_node_31 rfl ?_
  refine rn_icmp_eq (tgt := 42) dX9_node_33 rfl (fun _ => ?_) (fun q => absurd (by decide) q)
  refine rn_iconst (v := 1) dX9_node_42 rfl ?_
  refine rn_goto (tgt := 47) dX9_node_43 rfl ?_
  refine rn_istore dX9_node_47 (by decide) rfl ?_
  refine rn_iload_n dX9_node_49 rfl ?_
  refine rn_iconst (v := 3) dX9_node_50 rfl ?_
  refine rn_iconst (v := 5) dX9_node_51 rfl ?_
  refine rn_callS dX9_node_52 cs_X9_33 c_X9_isIn rfl (by decide) (by decide) rfl (Nat.le_of_ble_eq_true rfl) ?_
  refine rn_topi (y := 0) (by decide) ?_
  refine rn_istore dX9_node_55 (by decide) rfl ?_
  refine rn_iload_n dX9_node_57 rfl ?_
  refine rn_if_eq (tgt := 72) dX9_node_58 rfl (fun q => absurd q (by decide)) (fun _ => ?_)
  refine rn_iload_n dX9_node_61 rfl ?_
  refine rn_bipush (v := 6) dX9_node_62 rfl ?_
  refine rn_bipush (v := 8) dX9_node_64 rfl ?_
  refine rn_callS dX9_node_66 cs_X9_33 c_X9_isIn rfl (by decide) (by decide) rfl (Nat.le_of_ble_eq_true rfl) ?_
  refine rn_topi (y := 1) (by decide) ?_
  refine rn_if_eq (tgt := 76) dX9_node_69 rfl (fun q => absurd q (by decide)) (fun _ => ?_)
  refine rn_iconst (v := 1) dX9_node_72 rfl ?_
  refine rn_goto (tgt := 77) dX9_node_73 rfl ?_
  refine rn_istore dX9_node_77 (by decide) rfl ?_
  refine rn_iload dX9_node_79 rfl ?_
  refine rn_if_eq (tgt := 95) dX9_node_81 rfl (fun q => absurd q (by decide)) (fun _ => ?_)
  refine rn_aload_n dX9_node_84 rfl ?_
  refine rn_getfield dX9_node_85 fo_X9_12 h_SH rfl ?_
  refine rn_iload_n dX9_node_88 rfl ?_
  refine rn_callV dX9_node_89 cv_X9_85 c_X1_hasNode rfl h_chip rfl rfl (by decide) (by decide) rfl (Nat.le_of_ble_eq_true rfl) ?_
  refine rn_topi (y := 0) (no_node hF) ?_
  refine rn_if_eq (tgt := 132) dX9_node_92 rfl (fun _ => ?_) (fun q => absurd (by decide) q)
  refine rn_iconst (v := 0) dX9_node_132 rfl ?_
  exact rn_thruS dX9_node_133 cs_X9_51 (cx_mustExist hl) rfl (by decide) (by decide) rfl (Nat.le_of_ble_eq_true rfl) rfl
set_option maxRecDepth 20000 in
theorem x_node_8 (hl : l.stackTraces = false) (hF : Fr S) {b c d : Int32} : Cx l D ad tc L xs mX9_node 20 1000 [.ref 1, .int 8, .int b, .int c, .int d] (wd S E, sl) 1 := by
  refine cx_of (lv0 := [(0, .ref 1), (1, .int 8), (2, .int b), (3, .int c), (4, .int d)]) (by decide +kernel) (fun _ => by simp [lg_sl, j_v, Value.category]) (fun _ => rfl) ?_
  refine rn_aload_n dX9_node_0 rfl ?_
  refine rn_aload_n dX9_node_1 rfl ?_
  refine rn_getfield dX9_node_2 fo_X9_12 h_SH rfl ?_
  refine rn_getfield dX9_node_5 fo_X9_82 h_chip rfl ?_
  refine rn_topi (y := 0) hF.1 ?_
  refine rn_bipush (v := 16) dX9_node_8 rfl ?_
  refine rn_icmp_ge (tgt := 17) dX9_node_10 rfl (fun q => absurd q (by decide)) (fun _ => ?_)
  refine rn_iconst (v := 1) dX9_node_13 rfl ?_
  refine rn_goto (tgt := 18) dX9_node_14 rfl ?_
  refine rn_callV dX9_node_18 cv_X9_29 (c_X9_mustBeOpen hF.2.2.2.2.1 (by decide)) rfl h_SH rfl rfl (by decide) (by decide) rfl (Nat.le_of_ble_eq_true rfl) ?_
  refine rn_iload_n dX9_node_21 rfl ?_
  refine rn_iconst (v := 1) dX9_node_22 rfl ?_
  refine rn_iconst (v := 5) dX9_node_23 rfl ?_
  refine rn_callS dX9_node_24 cs_X9_33 c_X9_isIn rfl (by decide) (by decide) rfl (Nat.le_of_ble_eq_true rfl) ?_
  refine rn_topi (y := 0) (by decide) ?_
  refine rn_if_ne (tgt := 42) dX9_node_27 rfl (fun q => absurd (by decide) q) (fun _ => ?_)
  refine rn_iload_n dX9_node_30 rfl ?_
  refine rn_bipush (v := 7) dX9_node_31 rfl ?_
  refine rn_icmp_eq (tgt := 42) dX9_node_33 rfl (fun q => absurd q (by decide)) (fun _ => ?_)
  refine rn_iload_n dX9_node_36 rfl ?_
  refine rn_bipush (v := 8) dX9_node_37 rfl ?_
  refine rn_icmp_ne (tgt := 46) dX9_node_39 rfl (fun q => absurd (by decide) q) (fun _ => ?_)
  refine rn_iconst (v := 1) dX9_node_42 rfl ?_
  refine rn_goto (tgt := 47) dX9_node_43 rfl ?_
  refine rn_istore dX9_node_47 (by decide) rfl ?_
  refine rn_iload_n dX9_node_49 rfl ?_
  refine rn_iconst (v := 3) dX9_node_50 rfl ?_
  refine rn_iconst (v := 5) dX9_node_51 rfl ?_
  refine rn_callS dX9_node_52 cs_X9_33 c_X9_isIn rfl (by decide) (by decide) rfl (Nat.le_of_ble_eq_true rfl) ?_
  refine rn_topi (y := 0) (by decide) ?_
  refine rn_istore dX9_node_55 (by decide) rfl ?_
  refine rn_iload_n dX9_node_57 rfl ?_
  refine rn_if_eq (tgt := 72) dX9_node_58 rfl (fun q => absurd q (by decide)) (fun _ => ?_)
  refine rn_iload_n dX9_node_61 rfl ?_
  refine rn_bipush (v := 6) dX9_node_62 rfl ?_
  refine rn_bipush (v := 8) dX9_node_64 rfl ?_
  refine rn_callS dX9_node_66 cs_X9_33 c_X9_isIn rfl (by decide) (by decide) rfl (Nat.le_of_ble_eq_true rfl) ?_
  refine rn_topi (y := 1) (by decide) ?_
  refine rn_if_eq (tgt := 76) dX9_node_69 rfl (fun q => absurd q (by decide)) (fun _ => ?_)
  refine rn_iconst (v := 1) dX9_node_72 rfl ?_
  refine rn_goto (tgt := 77) dX9_node_73 rfl ?_
  refine rn_istore dX9_node_77 (by decide) rfl ?_
  refine rn_iload dX9_node_79 rfl ?_
  refine rn_if_eq (tgt := 95) dX9_node_81 rfl (fun q => absurd q (by decide)) (fun _ => ?_)
  refine rn_aload_n dX9_node_84 rfl ?_
  refine rn_getfield dX9_node_85 fo_X9_12 h_SH rfl ?_
  refine rn_iload_n dX9_node_88 rfl ?_
  refine rn_callV dX9_node_89 cv_X9_85 c_X1_hasNode rfl h_chip rfl rfl (by decide) (by decide) rfl (Nat.le_of_ble_eq_true rfl) ?_
  refine rn_topi (y := 0) (no_node hF) ?_
  refine rn_if_eq (tgt := 132) dX9_node_92 rfl (fun _ => ?_) (fun q => absurd (by decide) q)
  refine rn_iconst (v := 0) dX9_node_132 rfl ?_
  exact rn_thruS dX9_node_133 cs_X9_51 (cx_mustExist hl) rfl (by decide) (by decide) rfl (Nat.le_of_ble_eq_true rfl) rfl
set_option maxRecDepth 20000 in
theorem x_node_no (hl : l.stackTraces = false) (hF : Fr S) {a b c d : Int32} (hk : ¬ (0 ≤ a ∧ a ≤ 8)) : Cx l D ad tc L xs mX9_node 20 1000 [.ref 1, .int a, .int b, .int c, .int d] (wd S E, sl) 2 := by
  refine cx_of (lv0 := [(0, .ref 1), (1, .int a), (2, .int b), (3, .int c), (4, .int d)]) (by decide +kernel) (fun _ => by simp [lg_sl, j_v, Value.category]) (fun _ => rfl) ?_
  refine rn_aload_n dX9_node_0 rfl ?_
  refine rn_aload_n dX9_node_1 rfl ?_
  refine rn_getfield dX9_node_2 fo_X9_12 h_SH rfl ?_
  refine rn_getfield dX9_node_5 fo_X9_82 h_chip rfl ?_
  refine rn_topi (y := 0) hF.1 ?_
  refine rn_bipush (v := 16) dX9_node_8 rfl ?_
  refine rn_icmp_ge (tgt := 17) dX9_node_10 rfl (fun q => absurd q (by decide)) (fun _ => ?_)
  refine rn_iconst (v := 1) dX9_node_13 rfl ?_
  refine rn_goto (tgt := 18) dX9_node_14 rfl ?_
  refine rn_callV dX9_node_18 cv_X9_29 (c_X9_mustBeOpen hF.2.2.2.2.1 (by decide)) rfl h_SH rfl rfl (by decide) (by decide) rfl (Nat.le_of_ble_eq_true rfl) ?_
  refine rn_iload_n dX9_node_21 rfl ?_
  refine rn_iconst (v := 1) dX9_node_22 rfl ?_
  refine rn_iconst (v := 5) dX9_node_23 rfl ?_
  refine rn_callS dX9_node_24 cs_X9_33 c_X9_isIn rfl (by decide) (by decide) rfl (Nat.le_of_ble_eq_true rfl) ?_
  refine rn_topi (y := 0) (by rw [bI_0, decide_eq_false_iff_not]; exact fun z => hk ⟨Int32.le_trans (by decide) z.1, Int32.le_trans z.2 (by decide)⟩) ?_
  refine rn_if_ne (tgt := 42) dX9_node_27 rfl (fun q => absurd (by decide) q) (fun _ => ?_)
  refine rn_iload_n dX9_node_30 rfl ?_
  refine rn_bipush (v := 7) dX9_node_31 rfl ?_
  refine rn_icmp_eq (tgt := 42) dX9_node_33 rfl (fun q1 => absurd q1 (by exact fun z => hk (by rw [z]; decide))) (fun _ => ?_)
  refine rn_iload_n dX9_node_36 rfl ?_
  refine rn_bipush (v := 8) dX9_node_37 rfl ?_
  refine rn_icmp_ne (tgt := 46) dX9_node_39 rfl (fun _ => ?_) (fun q2 => absurd q2 (by exact fun z => hk (by rw [z]; decide)))
  refine rn_iconst (v := 0) dX9_node_46 rfl ?_
  refine rn_istore dX9_node_47 (by decide) rfl ?_
  refine rn_iload_n dX9_node_49 rfl ?_
  refine rn_iconst (v := 3) dX9_node_50 rfl ?_
  refine rn_iconst (v := 5) dX9_node_51 rfl ?_
  refine rn_callS dX9_node_52 cs_X9_33 c_X9_isIn rfl (by decide) (by decide) rfl (Nat.le_of_ble_eq_true rfl) ?_
  refine rn_topi (y := 0) (by rw [bI_0, decide_eq_false_iff_not]; exact fun z => hk ⟨Int32.le_trans (by decide) z.1, Int32.le_trans z.2 (by decide)⟩) ?_
  refine rn_istore dX9_node_55 (by decide) rfl ?_
  refine rn_iload_n dX9_node_57 rfl ?_
  refine rn_if_eq (tgt := 72) dX9_node_58 rfl (fun q3 => absurd q3 (by exact fun z => hk (by rw [z]; decide))) (fun _ => ?_)
  refine rn_iload_n dX9_node_61 rfl ?_
  refine rn_bipush (v := 6) dX9_node_62 rfl ?_
  refine rn_bipush (v := 8) dX9_node_64 rfl ?_
  refine rn_callS dX9_node_66 cs_X9_33 c_X9_isIn rfl (by decide) (by decide) rfl (Nat.le_of_ble_eq_true rfl) ?_
  refine rn_topi (y := 0) (by rw [bI_0, decide_eq_false_iff_not]; exact fun z => hk ⟨Int32.le_trans (by decide) z.1, Int32.le_trans z.2 (by decide)⟩) ?_
  refine rn_if_eq (tgt := 76) dX9_node_69 rfl (fun _ => ?_) (fun q => absurd (by decide) q)
  refine rn_iconst (v := 0) dX9_node_76 rfl ?_
  refine rn_istore dX9_node_77 (by decide) rfl ?_
  refine rn_iload dX9_node_79 rfl ?_
  refine rn_if_eq (tgt := 95) dX9_node_81 rfl (fun _ => ?_) (fun q => absurd (by decide) q)
  refine rn_iload dX9_node_95 rfl ?_
  refine rn_if_eq (tgt := 111) dX9_node_97 rfl (fun _ => ?_) (fun q => absurd (by decide) q)
  refine rn_iload dX9_node_111 rfl ?_
  refine rn_if_eq (tgt := 128) dX9_node_113 rfl (fun _ => ?_) (fun q => absurd (by decide) q)
  refine rn_iconst (v := 1) dX9_node_128 rfl ?_
  refine rn_goto (tgt := 133) dX9_node_129 rfl ?_
  refine rn_callS dX9_node_133 cs_X9_51 (c_X9_mustExist (by decide)) rfl (by decide) (by decide) rfl (Nat.le_of_ble_eq_true rfl) ?_
  refine rn_iload_n dX9_node_136 rfl ?_
  refine rn_iconst (v := 0) dX9_node_137 rfl ?_
  refine rn_bipush (v := 8) dX9_node_138 rfl ?_
  refine rn_callS dX9_node_140 cs_X9_33 c_X9_isIn rfl (by decide) (by decide) rfl (Nat.le_of_ble_eq_true rfl) ?_
  refine rn_topi (y := 0) (by rw [bI_0, decide_eq_false_iff_not]; exact fun z => hk ⟨Int32.le_trans (by decide) z.1, Int32.le_trans z.2 (by decide)⟩) ?_
  refine rn_if_eq (tgt := 194) dX9_node_143 rfl (fun _ => ?_) (fun q => absurd (by decide) q)
  refine rn_iconst (v := 0) dX9_node_194 rfl ?_
  exact rn_thruS dX9_node_195 cs_X9_37 (cx_mustFit hl) rfl (by decide) (by decide) rfl (Nat.le_of_ble_eq_true rfl) rfl
theorem x_node (hl : l.stackTraces = false) (hF : Fr S) {a b c d : Int32} (hk : 0 ≤ a ∧ a ≤ 8) : Cx l D ad tc L xs mX9_node 20 1000 [.ref 1, .int a, .int b, .int c, .int d] (wd S E, sl) 1 := by
  have h1 := Int32.le_iff_toInt_le.mp hk.1
  have h2 := Int32.le_iff_toInt_le.mp hk.2
  have e0 : (0 : Int32).toInt = 0 := rfl
  have e8 : (8 : Int32).toInt = 8 := rfl
  have : a = 0 ∨ a = 1 ∨ a = 2 ∨ a = 3 ∨ a = 4 ∨ a = 5 ∨ a = 6 ∨ a = 7 ∨ a = 8 := by
    rcases (by omega : a.toInt = 0 ∨ a.toInt = 1 ∨ a.toInt = 2 ∨ a.toInt = 3 ∨ a.toInt = 4 ∨ a.toInt = 5 ∨ a.toInt = 6 ∨ a.toInt = 7 ∨ a.toInt = 8) with h | h | h | h | h | h | h | h | h
    · exact Or.inl (Int32.toInt_inj.mp h)
    · exact Or.inr (Or.inl (Int32.toInt_inj.mp h))
    · exact Or.inr (Or.inr (Or.inl (Int32.toInt_inj.mp h)))
    · exact Or.inr (Or.inr (Or.inr (Or.inl (Int32.toInt_inj.mp h))))
    · exact Or.inr (Or.inr (Or.inr (Or.inr (Or.inl (Int32.toInt_inj.mp h)))))
    · exact Or.inr (Or.inr (Or.inr (Or.inr (Or.inr (Or.inl (Int32.toInt_inj.mp h))))))
    · exact Or.inr (Or.inr (Or.inr (Or.inr (Or.inr (Or.inr (Or.inl (Int32.toInt_inj.mp h)))))))
    · exact Or.inr (Or.inr (Or.inr (Or.inr (Or.inr (Or.inr (Or.inr (Or.inl (Int32.toInt_inj.mp h))))))))
    · exact Or.inr (Or.inr (Or.inr (Or.inr (Or.inr (Or.inr (Or.inr (Or.inr (Int32.toInt_inj.mp h))))))))
  rcases this with rfl | rfl | rfl | rfl | rfl | rfl | rfl | rfl | rfl
  · exact x_node_0 hl hF
  · exact x_node_1 hl hF
  · exact x_node_2 hl hF
  · exact x_node_3 hl hF
  · exact x_node_4 hl hF
  · exact x_node_5 hl hF
  · exact x_node_6 hl hF
  · exact x_node_7 hl hF
  · exact x_node_8 hl hF
set_option maxRecDepth 20000 in
theorem x_feed (hl : l.stackTraces = false) (hF : Fr S) {a b : Int32}  : Cx l D ad tc L xs mX9_feed 20 1000 [.ref 1, .int a, .int b] (wd S E, sl) 1 := by
  refine cx_of (lv0 := [(0, .ref 1), (1, .int a), (2, .int b)]) (by decide +kernel) (fun _ => by simp [lg_sl, j_v, Value.category]) (fun _ => rfl) ?_
  refine rn_aload_n dX9_feed_0 rfl ?_
  refine rn_iconst (v := 1) dX9_feed_1 rfl ?_
  refine rn_callV dX9_feed_2 cv_X9_29 (c_X9_mustBeOpen hF.2.2.2.2.1 (by decide)) rfl h_SH rfl rfl (by decide) (by decide) rfl (Nat.le_of_ble_eq_true rfl) ?_
  refine rn_aload_n dX9_feed_5 rfl ?_
  refine rn_getfield dX9_feed_6 fo_X9_12 h_SH rfl ?_
  refine rn_iload_n dX9_feed_9 rfl ?_
  refine rn_callV dX9_feed_10 cv_X9_85 c_X1_hasNode rfl h_chip rfl rfl (by decide) (by decide) rfl (Nat.le_of_ble_eq_true rfl) ?_
  refine rn_topi (y := 0) (no_node hF) ?_
  refine rn_if_eq (tgt := 31) dX9_feed_13 rfl (fun _ => ?_) (fun q => absurd (by decide) q)
  refine rn_iconst (v := 0) dX9_feed_31 rfl ?_
  exact rn_thruS dX9_feed_32 cs_X9_51 (cx_mustExist hl) rfl (by decide) (by decide) rfl (Nat.le_of_ble_eq_true rfl) rfl
set_option maxRecDepth 20000 in
theorem x_size (hl : l.stackTraces = false) (hF : Fr S) {a b : Int32}  : Cx l D ad tc L xs mX9_size 20 1000 [.ref 1, .int a, .int b] (wd S E, sl) 1 := by
  refine cx_of (lv0 := [(0, .ref 1), (1, .int a), (2, .int b)]) (by decide +kernel) (fun _ => by simp [lg_sl, j_v, Value.category]) (fun _ => rfl) ?_
  refine rn_aload_n dX9_size_0 rfl ?_
  refine rn_iconst (v := 1) dX9_size_1 rfl ?_
  refine rn_callV dX9_size_2 cv_X9_29 (c_X9_mustBeOpen hF.2.2.2.2.1 (by decide)) rfl h_SH rfl rfl (by decide) (by decide) rfl (Nat.le_of_ble_eq_true rfl) ?_
  refine rn_aload_n dX9_size_5 rfl ?_
  refine rn_getfield dX9_size_6 fo_X9_12 h_SH rfl ?_
  refine rn_iload_n dX9_size_9 rfl ?_
  refine rn_callV dX9_size_10 cv_X9_85 c_X1_hasNode rfl h_chip rfl rfl (by decide) (by decide) rfl (Nat.le_of_ble_eq_true rfl) ?_
  refine rn_topi (y := 0) (no_node hF) ?_
  exact rn_thruS dX9_size_13 cs_X9_51 (cx_mustExist hl) rfl (by decide) (by decide) rfl (Nat.le_of_ble_eq_true rfl) rfl
set_option maxRecDepth 20000 in
theorem x_wire (hl : l.stackTraces = false) (hF : Fr S) {a b : Int32}  : Cx l D ad tc L xs mX9_wire 20 1000 [.ref 1, .int a, .int b] (wd S E, sl) 1 := by
  refine cx_of (lv0 := [(0, .ref 1), (1, .int a), (2, .int b)]) (by decide +kernel) (fun _ => by simp [lg_sl, j_v, Value.category]) (fun _ => rfl) ?_
  refine rn_aload_n dX9_wire_0 rfl ?_
  refine rn_iconst (v := 1) dX9_wire_1 rfl ?_
  refine rn_callV dX9_wire_2 cv_X9_29 (c_X9_mustBeOpen hF.2.2.2.2.1 (by decide)) rfl h_SH rfl rfl (by decide) (by decide) rfl (Nat.le_of_ble_eq_true rfl) ?_
  refine rn_aload_n dX9_wire_5 rfl ?_
  refine rn_getfield dX9_wire_6 fo_X9_12 h_SH rfl ?_
  refine rn_iload_n dX9_wire_9 rfl ?_
  refine rn_callV dX9_wire_10 cv_X9_85 c_X1_hasNode rfl h_chip rfl rfl (by decide) (by decide) rfl (Nat.le_of_ble_eq_true rfl) ?_
  refine rn_topi (y := 0) (no_node hF) ?_
  exact rn_thruS dX9_wire_13 cs_X9_51 (cx_mustExist hl) rfl (by decide) (by decide) rfl (Nat.le_of_ble_eq_true rfl) rfl
set_option maxRecDepth 20000 in
theorem x_skew (hl : l.stackTraces = false) (hF : Fr S) {a b : Int32}  : Cx l D ad tc L xs mX9_skew 20 1000 [.ref 1, .int a, .int b] (wd S E, sl) 1 := by
  refine cx_of (lv0 := [(0, .ref 1), (1, .int a), (2, .int b)]) (by decide +kernel) (fun _ => by simp [lg_sl, j_v, Value.category]) (fun _ => rfl) ?_
  refine rn_aload_n dX9_skew_0 rfl ?_
  refine rn_iconst (v := 1) dX9_skew_1 rfl ?_
  refine rn_callV dX9_skew_2 cv_X9_29 (c_X9_mustBeOpen hF.2.2.2.2.1 (by decide)) rfl h_SH rfl rfl (by decide) (by decide) rfl (Nat.le_of_ble_eq_true rfl) ?_
  refine rn_aload_n dX9_skew_5 rfl ?_
  refine rn_getfield dX9_skew_6 fo_X9_12 h_SH rfl ?_
  refine rn_iload_n dX9_skew_9 rfl ?_
  refine rn_callV dX9_skew_10 cv_X9_85 c_X1_hasNode rfl h_chip rfl rfl (by decide) (by decide) rfl (Nat.le_of_ble_eq_true rfl) ?_
  refine rn_topi (y := 0) (no_node hF) ?_
  exact rn_thruS dX9_skew_13 cs_X9_51 (cx_mustExist hl) rfl (by decide) (by decide) rfl (Nat.le_of_ble_eq_true rfl) rfl
set_option maxRecDepth 20000 in
theorem x_ofClock (hl : l.stackTraces = false) (hF : Fr S) {a b : Int32}  : Cx l D ad tc L xs mX9_ofClock 20 1000 [.ref 1, .int a, .int b] (wd S E, sl) 1 := by
  refine cx_of (lv0 := [(0, .ref 1), (1, .int a), (2, .int b)]) (by decide +kernel) (fun _ => by simp [lg_sl, j_v, Value.category]) (fun _ => rfl) ?_
  refine rn_aload_n dX9_ofClock_0 rfl ?_
  refine rn_getfield dX9_ofClock_1 fo_X9_12 h_SH rfl ?_
  refine rn_iload_n dX9_ofClock_4 rfl ?_
  refine rn_callV dX9_ofClock_5 cv_X9_47 c_X1_hasClock rfl h_chip rfl rfl (by decide) (by decide) rfl (Nat.le_of_ble_eq_true rfl) ?_
  refine rn_topi (y := 0) (no_clock hF) ?_
  exact rn_thruS dX9_ofClock_8 cs_X9_51 (cx_mustExist hl) rfl (by decide) (by decide) rfl (Nat.le_of_ble_eq_true rfl) rfl
set_option maxRecDepth 20000 in
theorem x_ofNode (hl : l.stackTraces = false) (hF : Fr S) {a b : Int32}  : Cx l D ad tc L xs mX9_ofNode 20 1000 [.ref 1, .int a, .int b] (wd S E, sl) 1 := by
  refine cx_of (lv0 := [(0, .ref 1), (1, .int a), (2, .int b)]) (by decide +kernel) (fun _ => by simp [lg_sl, j_v, Value.category]) (fun _ => rfl) ?_
  refine rn_aload_n dX9_ofNode_0 rfl ?_
  refine rn_getfield dX9_ofNode_1 fo_X9_12 h_SH rfl ?_
  refine rn_iload_n dX9_ofNode_4 rfl ?_
  refine rn_callV dX9_ofNode_5 cv_X9_85 c_X1_hasNode rfl h_chip rfl rfl (by decide) (by decide) rfl (Nat.le_of_ble_eq_true rfl) ?_
  refine rn_topi (y := 0) (no_node hF) ?_
  exact rn_thruS dX9_ofNode_8 cs_X9_51 (cx_mustExist hl) rfl (by decide) (by decide) rfl (Nat.le_of_ble_eq_true rfl) rfl
set_option maxRecDepth 20000 in
theorem x_load (hl : l.stackTraces = false) (hF : Fr S) {a : Int32}  : Cx l D ad tc L xs mX9_load 20 1000 [.ref 1, .int a] (wd S E, sl) 1 := by
  refine cx_of (lv0 := [(0, .ref 1), (1, .int a)]) (by decide +kernel) (fun _ => by simp [lg_sl, j_v, Value.category]) (fun _ => rfl) ?_
  refine rn_aload_n dX9_load_0 rfl ?_
  refine rn_getfield dX9_load_1 fo_X9_12 h_SH rfl ?_
  refine rn_iload_n dX9_load_4 rfl ?_
  refine rn_callV dX9_load_5 cv_X9_85 c_X1_hasNode rfl h_chip rfl rfl (by decide) (by decide) rfl (Nat.le_of_ble_eq_true rfl) ?_
  refine rn_topi (y := 0) (no_node hF) ?_
  exact rn_thruS dX9_load_8 cs_X9_51 (cx_mustExist hl) rfl (by decide) (by decide) rfl (Nat.le_of_ble_eq_true rfl) rfl
set_option maxRecDepth 20000 in
theorem x_takes (hl : l.stackTraces = false) (hF : Fr S) {a b : Int32}  : Cx l D ad tc L xs mX9_takes 20 1000 [.ref 1, .int a, .int b] (wd S E, sl) 1 := by
  refine cx_of (lv0 := [(0, .ref 1), (1, .int a), (2, .int b)]) (by decide +kernel) (fun _ => by simp [lg_sl, j_v, Value.category]) (fun _ => rfl) ?_
  refine rn_aload_n dX9_takes_0 rfl ?_
  refine rn_getfield dX9_takes_1 fo_X9_12 h_SH rfl ?_
  refine rn_iload_n dX9_takes_4 rfl ?_
  refine rn_callV dX9_takes_5 cv_X9_85 c_X1_hasNode rfl h_chip rfl rfl (by decide) (by decide) rfl (Nat.le_of_ble_eq_true rfl) ?_
  refine rn_topi (y := 0) (no_node hF) ?_
  exact rn_thruS dX9_takes_8 cs_X9_51 (cx_mustExist hl) rfl (by decide) (by decide) rfl (Nat.le_of_ble_eq_true rfl) rfl
set_option maxRecDepth 20000 in
theorem x_arrival (hl : l.stackTraces = false) (hF : Fr S) {a b c d e : Int32}  : Cx l D ad tc L xs mX9_arrival 20 1000 [.ref 1, .int a, .int b, .int c, .int d, .int e] (wd S E, sl) 1 := by
  refine cx_of (lv0 := [(0, .ref 1), (1, .int a), (2, .int b), (3, .int c), (4, .int d), (5, .int e)]) (by decide +kernel) (fun _ => by simp [lg_sl, j_v, Value.category]) (fun _ => rfl) ?_
  refine rn_aload_n dX9_arrival_0 rfl ?_
  refine rn_getfield dX9_arrival_1 fo_X9_12 h_SH rfl ?_
  refine rn_iload_n dX9_arrival_4 rfl ?_
  refine rn_callV dX9_arrival_5 cv_X9_85 c_X1_hasNode rfl h_chip rfl rfl (by decide) (by decide) rfl (Nat.le_of_ble_eq_true rfl) ?_
  refine rn_topi (y := 0) (no_node hF) ?_
  refine rn_if_eq (tgt := 37) dX9_arrival_8 rfl (fun _ => ?_) (fun q => absurd (by decide) q)
  refine rn_iconst (v := 0) dX9_arrival_37 rfl ?_
  exact rn_thruS dX9_arrival_38 cs_X9_51 (cx_mustExist hl) rfl (by decide) (by decide) rfl (Nat.le_of_ble_eq_true rfl) rfl
set_option maxRecDepth 20000 in
theorem x_leftAt (hl : l.stackTraces = false) (hF : Fr S) {a b c : Int32}  : Cx l D ad tc L xs mX9_leftAt 20 1000 [.ref 1, .int a, .int b, .int c] (wd S E, sl) 1 := by
  refine cx_of (lv0 := [(0, .ref 1), (1, .int a), (2, .int b), (3, .int c)]) (by decide +kernel) (fun _ => by simp [lg_sl, j_v, Value.category]) (fun _ => rfl) ?_
  refine rn_aload_n dX9_leftAt_0 rfl ?_
  refine rn_getfield dX9_leftAt_1 fo_X9_12 h_SH rfl ?_
  refine rn_iload_n dX9_leftAt_4 rfl ?_
  refine rn_callV dX9_leftAt_5 cv_X9_85 c_X1_hasNode rfl h_chip rfl rfl (by decide) (by decide) rfl (Nat.le_of_ble_eq_true rfl) ?_
  refine rn_topi (y := 0) (no_node hF) ?_
  refine rn_if_eq (tgt := 26) dX9_leftAt_8 rfl (fun _ => ?_) (fun q => absurd (by decide) q)
  refine rn_iconst (v := 0) dX9_leftAt_26 rfl ?_
  exact rn_thruS dX9_leftAt_27 cs_X9_51 (cx_mustExist hl) rfl (by decide) (by decide) rfl (Nat.le_of_ble_eq_true rfl) rfl
set_option maxRecDepth 20000 in
theorem x_borrow (hl : l.stackTraces = false) (hF : Fr S) {a b : Int32}  : Cx l D ad tc L xs mX9_borrow 20 1000 [.ref 1, .int a, .int b] (wd S E, sl) 1 := by
  refine cx_of (lv0 := [(0, .ref 1), (1, .int a), (2, .int b)]) (by decide +kernel) (fun _ => by simp [lg_sl, j_v, Value.category]) (fun _ => rfl) ?_
  refine rn_aload_n dX9_borrow_0 rfl ?_
  refine rn_getfield dX9_borrow_1 fo_X9_12 h_SH rfl ?_
  refine rn_iload_n dX9_borrow_4 rfl ?_
  refine rn_callV dX9_borrow_5 cv_X9_85 c_X1_hasNode rfl h_chip rfl rfl (by decide) (by decide) rfl (Nat.le_of_ble_eq_true rfl) ?_
  refine rn_topi (y := 0) (no_node hF) ?_
  refine rn_if_eq (tgt := 26) dX9_borrow_8 rfl (fun _ => ?_) (fun q => absurd (by decide) q)
  refine rn_iconst (v := 0) dX9_borrow_26 rfl ?_
  exact rn_thruS dX9_borrow_27 cs_X9_51 (cx_mustExist hl) rfl (by decide) (by decide) rfl (Nat.le_of_ble_eq_true rfl) rfl
set_option maxRecDepth 20000 in
theorem x_worst (hl : l.stackTraces = false) (hF : Fr S) {a b : Int32}  : Cx l D ad tc L xs mX9_worst 20 1000 [.ref 1, .int a, .int b] (wd S E, sl) 1 := by
  refine cx_of (lv0 := [(0, .ref 1), (1, .int a), (2, .int b)]) (by decide +kernel) (fun _ => by simp [lg_sl, j_v, Value.category]) (fun _ => rfl) ?_
  refine rn_aload_n dX9_worst_0 rfl ?_
  refine rn_getfield dX9_worst_1 fo_X9_12 h_SH rfl ?_
  refine rn_iload_n dX9_worst_4 rfl ?_
  refine rn_callV dX9_worst_5 cv_X9_85 c_X1_hasNode rfl h_chip rfl rfl (by decide) (by decide) rfl (Nat.le_of_ble_eq_true rfl) ?_
  refine rn_topi (y := 0) (no_node hF) ?_
  exact rn_thruS dX9_worst_8 cs_X9_51 (cx_mustExist hl) rfl (by decide) (by decide) rfl (Nat.le_of_ble_eq_true rfl) rfl
set_option maxRecDepth 20000 in
theorem x_wouldLeave (hl : l.stackTraces = false) (hF : Fr S) {a b : Int32}  : Cx l D ad tc L xs mX9_wouldLeave 20 1000 [.ref 1, .int a, .int b] (wd S E, sl) 1 := by
  refine cx_of (lv0 := [(0, .ref 1), (1, .int a), (2, .int b)]) (by decide +kernel) (fun _ => by simp [lg_sl, j_v, Value.category]) (fun _ => rfl) ?_
  refine rn_aload_n dX9_wouldLeave_0 rfl ?_
  refine rn_getfield dX9_wouldLeave_1 fo_X9_12 h_SH rfl ?_
  refine rn_iload_n dX9_wouldLeave_4 rfl ?_
  refine rn_callV dX9_wouldLeave_5 cv_X9_85 c_X1_hasNode rfl h_chip rfl rfl (by decide) (by decide) rfl (Nat.le_of_ble_eq_true rfl) ?_
  refine rn_topi (y := 0) (no_node hF) ?_
  exact rn_thruS dX9_wouldLeave_8 cs_X9_51 (cx_mustExist hl) rfl (by decide) (by decide) rfl (Nat.le_of_ble_eq_true rfl) rfl
set_option maxRecDepth 20000 in
theorem x_winner (hl : l.stackTraces = false) (hF : Fr S) {a b : Int32}  : Cx l D ad tc L xs mX9_winner 20 1000 [.ref 1, .int a, .int b] (wd S E, sl) 1 := by
  refine cx_of (lv0 := [(0, .ref 1), (1, .int a), (2, .int b)]) (by decide +kernel) (fun _ => by simp [lg_sl, j_v, Value.category]) (fun _ => rfl) ?_
  refine rn_aload_n dX9_winner_0 rfl ?_
  refine rn_iload_n dX9_winner_1 rfl ?_
  refine rn_iload_n dX9_winner_2 rfl ?_
  exact rn_thruV dX9_winner_3 cv_X9_174 (x_mustBePair hl hF) rfl h_SH rfl rfl (by decide) (by decide) rfl (Nat.le_of_ble_eq_true rfl) rfl
set_option maxRecDepth 20000 in
theorem x_ways (hl : l.stackTraces = false) (hF : Fr S) {a b : Int32}  : Cx l D ad tc L xs mX9_ways 20 1000 [.ref 1, .int a, .int b] (wd S E, sl) 1 := by
  refine cx_of (lv0 := [(0, .ref 1), (1, .int a), (2, .int b)]) (by decide +kernel) (fun _ => by simp [lg_sl, j_v, Value.category]) (fun _ => rfl) ?_
  refine rn_aload_n dX9_ways_0 rfl ?_
  refine rn_iload_n dX9_ways_1 rfl ?_
  refine rn_iload_n dX9_ways_2 rfl ?_
  exact rn_thruV dX9_ways_3 cv_X9_174 (x_mustBePair hl hF) rfl h_SH rfl rfl (by decide) (by decide) rfl (Nat.le_of_ble_eq_true rfl) rfl
set_option maxRecDepth 20000 in
theorem x_left_c (hl : l.stackTraces = false) (hF : Fr S) {a b c d : Int32} (hc : ¬ c = 0) : Cx l D ad tc L xs mX9_left 20 1000 [.ref 1, .int a, .int b, .int c, .int d] (wd S E, sl) 1 := by
  refine cx_of (lv0 := [(0, .ref 1), (1, .int a), (2, .int b), (3, .int c), (4, .int d)]) (by decide +kernel) (fun _ => by simp [lg_sl, j_v, Value.category]) (fun _ => rfl) ?_
  refine rn_aload_n dX9_left_0 rfl ?_
  refine rn_getfield dX9_left_1 fo_X9_12 h_SH rfl ?_
  refine rn_iload_n dX9_left_4 rfl ?_
  refine rn_callV dX9_left_5 cv_X9_161 c_X1_hasCorner rfl h_chip rfl rfl (by decide) (by decide) rfl (Nat.le_of_ble_eq_true rfl) ?_
  refine rn_topi (y := 0) (no_corner hF hc) ?_
  exact rn_thruS dX9_left_8 cs_X9_51 (cx_mustExist hl) rfl (by decide) (by decide) rfl (Nat.le_of_ble_eq_true rfl) rfl
set_option maxRecDepth 20000 in
theorem x_left_p (hl : l.stackTraces = false) (hF : Fr S) {a b d : Int32} : Cx l D ad tc L xs mX9_left 20 1000 [.ref 1, .int a, .int b, .int 0, .int d] (wd S E, sl) 1 := by
  refine cx_of (lv0 := [(0, .ref 1), (1, .int a), (2, .int b), (3, .int 0), (4, .int d)]) (by decide +kernel) (fun _ => by simp [lg_sl, j_v, Value.category]) (fun _ => rfl) ?_
  refine rn_aload_n dX9_left_0 rfl ?_
  refine rn_getfield dX9_left_1 fo_X9_12 h_SH rfl ?_
  refine rn_iload_n dX9_left_4 rfl ?_
  refine rn_callV dX9_left_5 cv_X9_161 c_X1_hasCorner rfl h_chip rfl rfl (by decide) (by decide) rfl (Nat.le_of_ble_eq_true rfl) ?_
  refine rn_topi (y := 1) (one_corner hF) ?_
  refine rn_callS dX9_left_8 cs_X9_51 (c_X9_mustExist (by decide)) rfl (by decide) (by decide) rfl (Nat.le_of_ble_eq_true rfl) ?_
  refine rn_aload_n dX9_left_11 rfl ?_
  refine rn_iload_n dX9_left_12 rfl ?_
  refine rn_iload_n dX9_left_13 rfl ?_
  exact rn_thruV dX9_left_14 cv_X9_174 (x_mustBePair hl hF) rfl h_SH rfl rfl (by decide) (by decide) rfl (Nat.le_of_ble_eq_true rfl) rfl
theorem x_left (hl : l.stackTraces = false) (hF : Fr S) {a b c d : Int32} : Cx l D ad tc L xs mX9_left 20 1000 [.ref 1, .int a, .int b, .int c, .int d] (wd S E, sl) 1 := by
  by_cases hc : c = 0
  · subst hc
    exact x_left_p hl hF
  · exact x_left_c hl hF hc
set_option maxRecDepth 20000 in
theorem x_isIdle (hl : l.stackTraces = false) (hF : Fr S) {a : Int32} (hc : ¬ a = 0) : Cx l D ad tc L xs mX9_isIdle 20 1000 [.ref 1, .int a] (wd S E, sl) 1 := by
  refine cx_of (lv0 := [(0, .ref 1), (1, .int a)]) (by decide +kernel) (fun _ => by simp [lg_sl, j_v, Value.category]) (fun _ => rfl) ?_
  refine rn_aload_n dX9_isIdle_0 rfl ?_
  refine rn_getfield dX9_isIdle_1 fo_X9_12 h_SH rfl ?_
  refine rn_iload_n dX9_isIdle_4 rfl ?_
  refine rn_callV dX9_isIdle_5 cv_X9_161 c_X1_hasCorner rfl h_chip rfl rfl (by decide) (by decide) rfl (Nat.le_of_ble_eq_true rfl) ?_
  refine rn_topi (y := 0) (no_corner hF hc) ?_
  exact rn_thruS dX9_isIdle_8 cs_X9_51 (cx_mustExist hl) rfl (by decide) (by decide) rfl (Nat.le_of_ble_eq_true rfl) rfl
set_option maxRecDepth 20000 in
theorem x_many (hl : l.stackTraces = false) (hF : Fr S) {a : Int32} (hk : ¬ (0 ≤ a ∧ a ≤ 10)) : Cx l D ad tc L xs mX9_many 20 1000 [.ref 1, .int a] (wd S E, sl) 2 := by
  refine cx_of (lv0 := [(0, .ref 1), (1, .int a)]) (by decide +kernel) (fun _ => by simp [lg_sl, j_v, Value.category]) (fun _ => rfl) ?_
  refine rn_iload_n dX9_many_0 rfl ?_
  refine rn_iconst (v := 0) dX9_many_1 rfl ?_
  refine rn_bipush (v := 10) dX9_many_2 rfl ?_
  refine rn_callS dX9_many_4 cs_X9_33 c_X9_isIn rfl (by decide) (by decide) rfl (Nat.le_of_ble_eq_true rfl) ?_
  refine rn_topi (y := 0) (by rw [bI_0, decide_eq_false_iff_not]; exact fun z => hk ⟨Int32.le_trans (by decide) z.1, Int32.le_trans z.2 (by decide)⟩) ?_
  exact rn_thruS dX9_many_7 cs_X9_37 (cx_mustFit hl) rfl (by decide) (by decide) rfl (Nat.le_of_ble_eq_true rfl) rfl
set_option maxRecDepth 20000 in
theorem x_exc_from (hl : l.stackTraces = false) (hF : Fr S) {a b c : Int32} (hb : ¬ b = -1) : Cx l D ad tc L xs mX9_exception 20 1000 [.ref 1, .int a, .int b, .int c] (wd S E, sl) 1 := by
  refine cx_of (lv0 := [(0, .ref 1), (1, .int a), (2, .int b), (3, .int c)]) (by decide +kernel) (fun _ => by simp [lg_sl, j_v, Value.category]) (fun _ => rfl) ?_
  refine rn_aload_n dX9_exception_0 rfl ?_
  refine rn_aload_n dX9_exception_1 rfl ?_
  refine rn_getfield dX9_exception_2 fo_X9_12 h_SH rfl ?_
  refine rn_getfield dX9_exception_5 fo_X9_128 h_chip rfl ?_
  refine rn_topi (y := 0) hF.2.2.2.1 ?_
  refine rn_bipush (v := 6) dX9_exception_8 rfl ?_
  refine rn_icmp_ge (tgt := 17) dX9_exception_10 rfl (fun q => absurd q (by decide)) (fun _ => ?_)
  refine rn_iconst (v := 1) dX9_exception_13 rfl ?_
  refine rn_goto (tgt := 18) dX9_exception_14 rfl ?_
  refine rn_callV dX9_exception_18 cv_X9_29 (c_X9_mustBeOpen hF.2.2.2.2.1 (by decide)) rfl h_SH rfl rfl (by decide) (by decide) rfl (Nat.le_of_ble_eq_true rfl) ?_
  refine rn_iload_n dX9_exception_21 rfl ?_
  refine rn_iconst (v := (-1)) dX9_exception_22 rfl ?_
  refine rn_icmp_eq (tgt := 37) dX9_exception_23 rfl (fun q1 => absurd q1 (by exact hb)) (fun _ => ?_)
  refine rn_aload_n dX9_exception_26 rfl ?_
  refine rn_getfield dX9_exception_27 fo_X9_12 h_SH rfl ?_
  refine rn_iload_n dX9_exception_30 rfl ?_
  refine rn_callV dX9_exception_31 cv_X9_85 c_X1_hasNode rfl h_chip rfl rfl (by decide) (by decide) rfl (Nat.le_of_ble_eq_true rfl) ?_
  refine rn_topi (y := 0) (no_node hF) ?_
  refine rn_if_eq (tgt := 57) dX9_exception_34 rfl (fun _ => ?_) (fun q => absurd (by decide) q)
  refine rn_iconst (v := 0) dX9_exception_57 rfl ?_
  exact rn_thruS dX9_exception_58 cs_X9_51 (cx_mustExist hl) rfl (by decide) (by decide) rfl (Nat.le_of_ble_eq_true rfl) rfl
set_option maxRecDepth 20000 in
theorem x_exc_to (hl : l.stackTraces = false) (hF : Fr S) {a c : Int32} (hc : ¬ c = -1) : Cx l D ad tc L xs mX9_exception 20 1000 [.ref 1, .int a, .int (-1), .int c] (wd S E, sl) 1 := by
  refine cx_of (lv0 := [(0, .ref 1), (1, .int a), (2, .int (-1)), (3, .int c)]) (by decide +kernel) (fun _ => by simp [lg_sl, j_v, Value.category]) (fun _ => rfl) ?_
  refine rn_aload_n dX9_exception_0 rfl ?_
  refine rn_aload_n dX9_exception_1 rfl ?_
  refine rn_getfield dX9_exception_2 fo_X9_12 h_SH rfl ?_
  refine rn_getfield dX9_exception_5 fo_X9_128 h_chip rfl ?_
  refine rn_topi (y := 0) hF.2.2.2.1 ?_
  refine rn_bipush (v := 6) dX9_exception_8 rfl ?_
  refine rn_icmp_ge (tgt := 17) dX9_exception_10 rfl (fun q => absurd q (by decide)) (fun _ => ?_)
  refine rn_iconst (v := 1) dX9_exception_13 rfl ?_
  refine rn_goto (tgt := 18) dX9_exception_14 rfl ?_
  refine rn_callV dX9_exception_18 cv_X9_29 (c_X9_mustBeOpen hF.2.2.2.2.1 (by decide)) rfl h_SH rfl rfl (by decide) (by decide) rfl (Nat.le_of_ble_eq_true rfl) ?_
  refine rn_iload_n dX9_exception_21 rfl ?_
  refine rn_iconst (v := (-1)) dX9_exception_22 rfl ?_
  refine rn_icmp_eq (tgt := 37) dX9_exception_23 rfl (fun _ => ?_) (fun q1 => absurd (by rfl) q1)
  refine rn_iload_n dX9_exception_37 rfl ?_
  refine rn_iconst (v := (-1)) dX9_exception_38 rfl ?_
  refine rn_icmp_eq (tgt := 53) dX9_exception_39 rfl (fun q2 => absurd q2 (by exact hc)) (fun _ => ?_)
  refine rn_aload_n dX9_exception_42 rfl ?_
  refine rn_getfield dX9_exception_43 fo_X9_12 h_SH rfl ?_
  refine rn_iload_n dX9_exception_46 rfl ?_
  refine rn_callV dX9_exception_47 cv_X9_85 c_X1_hasNode rfl h_chip rfl rfl (by decide) (by decide) rfl (Nat.le_of_ble_eq_true rfl) ?_
  refine rn_topi (y := 0) (no_node hF) ?_
  refine rn_if_eq (tgt := 57) dX9_exception_50 rfl (fun _ => ?_) (fun q => absurd (by decide) q)
  refine rn_iconst (v := 0) dX9_exception_57 rfl ?_
  exact rn_thruS dX9_exception_58 cs_X9_51 (cx_mustExist hl) rfl (by decide) (by decide) rfl (Nat.le_of_ble_eq_true rfl) rfl
set_option maxRecDepth 20000 in
theorem x_exc_sort (hl : l.stackTraces = false) (hF : Fr S) {a : Int32} (h0 : ¬ a = 0) (hk : ¬ (2 ≤ a ∧ a ≤ 4)) : Cx l D ad tc L xs mX9_exception 20 1000 [.ref 1, .int a, .int (-1), .int (-1)] (wd S E, sl) 2 := by
  refine cx_of (lv0 := [(0, .ref 1), (1, .int a), (2, .int (-1)), (3, .int (-1))]) (by decide +kernel) (fun _ => by simp [lg_sl, j_v, Value.category]) (fun _ => rfl) ?_
  refine rn_aload_n dX9_exception_0 rfl ?_
  refine rn_aload_n dX9_exception_1 rfl ?_
  refine rn_getfield dX9_exception_2 fo_X9_12 h_SH rfl ?_
  refine rn_getfield dX9_exception_5 fo_X9_128 h_chip rfl ?_
  refine rn_topi (y := 0) hF.2.2.2.1 ?_
  refine rn_bipush (v := 6) dX9_exception_8 rfl ?_
  refine rn_icmp_ge (tgt := 17) dX9_exception_10 rfl (fun q => absurd q (by decide)) (fun _ => ?_)
  refine rn_iconst (v := 1) dX9_exception_13 rfl ?_
  refine rn_goto (tgt := 18) dX9_exception_14 rfl ?_
  refine rn_callV dX9_exception_18 cv_X9_29 (c_X9_mustBeOpen hF.2.2.2.2.1 (by decide)) rfl h_SH rfl rfl (by decide) (by decide) rfl (Nat.le_of_ble_eq_true rfl) ?_
  refine rn_iload_n dX9_exception_21 rfl ?_
  refine rn_iconst (v := (-1)) dX9_exception_22 rfl ?_
  refine rn_icmp_eq (tgt := 37) dX9_exception_23 rfl (fun _ => ?_) (fun q1 => absurd (by rfl) q1)
  refine rn_iload_n dX9_exception_37 rfl ?_
  refine rn_iconst (v := (-1)) dX9_exception_38 rfl ?_
  refine rn_icmp_eq (tgt := 53) dX9_exception_39 rfl (fun _ => ?_) (fun q2 => absurd (by rfl) q2)
  refine rn_iconst (v := 1) dX9_exception_53 rfl ?_
  refine rn_goto (tgt := 58) dX9_exception_54 rfl ?_
  refine rn_callS dX9_exception_58 cs_X9_51 (c_X9_mustExist (by decide)) rfl (by decide) (by decide) rfl (Nat.le_of_ble_eq_true rfl) ?_
  refine rn_iload_n dX9_exception_61 rfl ?_
  refine rn_if_eq (tgt := 74) dX9_exception_62 rfl (fun q3 => absurd q3 (by exact h0)) (fun _ => ?_)
  refine rn_iload_n dX9_exception_65 rfl ?_
  refine rn_iconst (v := 2) dX9_exception_66 rfl ?_
  refine rn_iconst (v := 4) dX9_exception_67 rfl ?_
  refine rn_callS dX9_exception_68 cs_X9_33 c_X9_isIn rfl (by decide) (by decide) rfl (Nat.le_of_ble_eq_true rfl) ?_
  refine rn_topi (y := 0) (by rw [bI_0, decide_eq_false_iff_not]; exact fun z => hk ⟨z.1, z.2⟩) ?_
  refine rn_if_eq (tgt := 118) dX9_exception_71 rfl (fun _ => ?_) (fun q => absurd (by decide) q)
  refine rn_iconst (v := 0) dX9_exception_118 rfl ?_
  exact rn_thruS dX9_exception_119 cs_X9_37 (cx_mustFit hl) rfl (by decide) (by decide) rfl (Nat.le_of_ble_eq_true rfl) rfl
set_option maxRecDepth 20000 in
theorem f_exc_0 (hF : Fr S)  : Cn l D ad tc L xs mX9_exception 1 24 [.ref 1, .int 0, .int (-1), .int (-1)] (wd S E, sl) (some (.int (nI 0))) (wd (sRul (sForget S) 0 0 (-1) (-1)) E, sl) := by
  refine cn_of (lv0 := [(0, .ref 1), (1, .int 0), (2, .int (-1)), (3, .int (-1))]) (by decide +kernel) ⟨_, rfl, rfl⟩ (fun _ => by simp [lg_sl, j_v, Value.category]) (fun _ => rfl) ?_
  have hkF : sI (sForget S) 1 7 = nI 0 := ((TS_forget S).1 1 7 (by decide)).trans hF.2.2.2.1
  refine rn_aload_n dX9_exception_0 rfl ?_
  refine rn_aload_n dX9_exception_1 rfl ?_
  refine rn_getfield dX9_exception_2 fo_X9_12 h_SH rfl ?_
  refine rn_getfield dX9_exception_5 fo_X9_128 h_chip rfl ?_
  refine rn_topi (y := nI 0) (by first | exact hF.2.2.2.1 | exact ((TS_forget S).1 1 7 (by decide)).trans hF.2.2.2.1) ?_
  refine rn_bipush (v := 6) dX9_exception_8 rfl ?_
  refine rn_icmp_ge (tgt := 17) dX9_exception_10 rfl (fun q => absurd q (by decide)) (fun _ => ?_)
  refine rn_iconst (v := 1) dX9_exception_13 rfl ?_
  refine rn_goto (tgt := 18) dX9_exception_14 rfl ?_
  refine rn_callV dX9_exception_18 cv_X9_29 (c_X9_mustBeOpen hF.2.2.2.2.1 (by decide)) rfl h_SH rfl rfl (by decide) (by decide) rfl (Nat.le_of_ble_eq_true rfl) ?_
  refine rn_iload_n dX9_exception_21 rfl ?_
  refine rn_iconst (v := (-1)) dX9_exception_22 rfl ?_
  refine rn_icmp_eq (tgt := 37) dX9_exception_23 rfl (fun _ => ?_) (fun q1 => absurd (by rfl) q1)
  refine rn_iload_n dX9_exception_37 rfl ?_
  refine rn_iconst (v := (-1)) dX9_exception_38 rfl ?_
  refine rn_icmp_eq (tgt := 53) dX9_exception_39 rfl (fun _ => ?_) (fun q2 => absurd (by rfl) q2)
  refine rn_iconst (v := 1) dX9_exception_53 rfl ?_
  refine rn_goto (tgt := 58) dX9_exception_54 rfl ?_
  refine rn_callS dX9_exception_58 cs_X9_51 (c_X9_mustExist (by decide)) rfl (by decide) (by decide) rfl (Nat.le_of_ble_eq_true rfl) ?_
  refine rn_iload_n dX9_exception_61 rfl ?_
  refine rn_if_eq (tgt := 74) dX9_exception_62 rfl (fun _ => ?_) (fun q3 => absurd (by rfl) q3)
  refine rn_iload_n dX9_exception_74 rfl ?_
  refine rn_iconst (v := (-1)) dX9_exception_75 rfl ?_
  refine rn_icmp_eq (tgt := 94) dX9_exception_76 rfl (fun _ => ?_) (fun q4 => absurd (by rfl) q4)
  refine rn_iload_n dX9_exception_94 rfl ?_
  refine rn_iconst (v := (-1)) dX9_exception_95 rfl ?_
  refine rn_icmp_eq (tgt := 114) dX9_exception_96 rfl (fun _ => ?_) (fun q5 => absurd (by rfl) q5)
  refine rn_iconst (v := 1) dX9_exception_114 rfl ?_
  refine rn_goto (tgt := 119) dX9_exception_115 rfl ?_
  refine rn_callS dX9_exception_119 cs_X9_37 (c_X9_mustFit (by decide)) rfl (by decide) (by decide) rfl (Nat.le_of_ble_eq_true rfl) ?_
  refine rn_aload_n dX9_exception_122 rfl ?_
  refine rn_getfield dX9_exception_123 fo_X9_21 h_SH rfl ?_
  refine rn_callV dX9_exception_126 cv_X9_40 c_X0_forget rfl h_an rfl rfl (by decide) (by decide) rfl (Nat.le_of_ble_eq_true rfl) ?_
  refine rn_aload_n dX9_exception_129 rfl ?_
  refine rn_getfield dX9_exception_130 fo_X9_12 h_SH rfl ?_
  refine rn_iload_n dX9_exception_133 rfl ?_
  refine rn_iload_n dX9_exception_134 rfl ?_
  refine rn_iload_n dX9_exception_135 rfl ?_
  refine rn_callV dX9_exception_136 cv_X9_138 (c_X1_addRule hkF (by decide)) rfl h_chip rfl rfl (by decide) (by decide) rfl (Nat.le_of_ble_eq_true rfl) ?_
  exact rn_ret dX9_exception_139 trivial rfl
set_option maxRecDepth 20000 in
theorem f_exc_n (hF : Fr S) {a : Int32} (h0 : ¬ a = 0) (hk : 2 ≤ a ∧ a ≤ 4) : Cn l D ad tc L xs mX9_exception 1 24 [.ref 1, .int a, .int (-1), .int (-1)] (wd S E, sl) (some (.int (nI 0))) (wd (sRul (sForget S) 0 a (-1) (-1)) E, sl) := by
  refine cn_of (lv0 := [(0, .ref 1), (1, .int a), (2, .int (-1)), (3, .int (-1))]) (by decide +kernel) ⟨_, rfl, rfl⟩ (fun _ => by simp [lg_sl, j_v, Value.category]) (fun _ => rfl) ?_
  have hkF : sI (sForget S) 1 7 = nI 0 := ((TS_forget S).1 1 7 (by decide)).trans hF.2.2.2.1
  refine rn_aload_n dX9_exception_0 rfl ?_
  refine rn_aload_n dX9_exception_1 rfl ?_
  refine rn_getfield dX9_exception_2 fo_X9_12 h_SH rfl ?_
  refine rn_getfield dX9_exception_5 fo_X9_128 h_chip rfl ?_
  refine rn_topi (y := nI 0) (by first | exact hF.2.2.2.1 | exact ((TS_forget S).1 1 7 (by decide)).trans hF.2.2.2.1) ?_
  refine rn_bipush (v := 6) dX9_exception_8 rfl ?_
  refine rn_icmp_ge (tgt := 17) dX9_exception_10 rfl (fun q => absurd q (by decide)) (fun _ => ?_)
  refine rn_iconst (v := 1) dX9_exception_13 rfl ?_
  refine rn_goto (tgt := 18) dX9_exception_14 rfl ?_
  refine rn_callV dX9_exception_18 cv_X9_29 (c_X9_mustBeOpen hF.2.2.2.2.1 (by decide)) rfl h_SH rfl rfl (by decide) (by decide) rfl (Nat.le_of_ble_eq_true rfl) ?_
  refine rn_iload_n dX9_exception_21 rfl ?_
  refine rn_iconst (v := (-1)) dX9_exception_22 rfl ?_
  refine rn_icmp_eq (tgt := 37) dX9_exception_23 rfl (fun _ => ?_) (fun q1 => absurd (by rfl) q1)
  refine rn_iload_n dX9_exception_37 rfl ?_
  refine rn_iconst (v := (-1)) dX9_exception_38 rfl ?_
  refine rn_icmp_eq (tgt := 53) dX9_exception_39 rfl (fun _ => ?_) (fun q2 => absurd (by rfl) q2)
  refine rn_iconst (v := 1) dX9_exception_53 rfl ?_
  refine rn_goto (tgt := 58) dX9_exception_54 rfl ?_
  refine rn_callS dX9_exception_58 cs_X9_51 (c_X9_mustExist (by decide)) rfl (by decide) (by decide) rfl (Nat.le_of_ble_eq_true rfl) ?_
  refine rn_iload_n dX9_exception_61 rfl ?_
  refine rn_if_eq (tgt := 74) dX9_exception_62 rfl (fun q3 => absurd q3 (by exact h0)) (fun _ => ?_)
  refine rn_iload_n dX9_exception_65 rfl ?_
  refine rn_iconst (v := 2) dX9_exception_66 rfl ?_
  refine rn_iconst (v := 4) dX9_exception_67 rfl ?_
  refine rn_callS dX9_exception_68 cs_X9_33 c_X9_isIn rfl (by decide) (by decide) rfl (Nat.le_of_ble_eq_true rfl) ?_
  refine rn_topi (y := 1) (is_b (decide_eq_true hk)) ?_
  refine rn_if_eq (tgt := 118) dX9_exception_71 rfl (fun q => absurd q (by decide)) (fun _ => ?_)
  refine rn_iload_n dX9_exception_74 rfl ?_
  refine rn_iconst (v := (-1)) dX9_exception_75 rfl ?_
  refine rn_icmp_eq (tgt := 94) dX9_exception_76 rfl (fun _ => ?_) (fun q4 => absurd (by rfl) q4)
  refine rn_iload_n dX9_exception_94 rfl ?_
  refine rn_iconst (v := (-1)) dX9_exception_95 rfl ?_
  refine rn_icmp_eq (tgt := 114) dX9_exception_96 rfl (fun _ => ?_) (fun q5 => absurd (by rfl) q5)
  refine rn_iconst (v := 1) dX9_exception_114 rfl ?_
  refine rn_goto (tgt := 119) dX9_exception_115 rfl ?_
  refine rn_callS dX9_exception_119 cs_X9_37 (c_X9_mustFit (by decide)) rfl (by decide) (by decide) rfl (Nat.le_of_ble_eq_true rfl) ?_
  refine rn_aload_n dX9_exception_122 rfl ?_
  refine rn_getfield dX9_exception_123 fo_X9_21 h_SH rfl ?_
  refine rn_callV dX9_exception_126 cv_X9_40 c_X0_forget rfl h_an rfl rfl (by decide) (by decide) rfl (Nat.le_of_ble_eq_true rfl) ?_
  refine rn_aload_n dX9_exception_129 rfl ?_
  refine rn_getfield dX9_exception_130 fo_X9_12 h_SH rfl ?_
  refine rn_iload_n dX9_exception_133 rfl ?_
  refine rn_iload_n dX9_exception_134 rfl ?_
  refine rn_iload_n dX9_exception_135 rfl ?_
  refine rn_callV dX9_exception_136 cv_X9_138 (c_X1_addRule hkF (by decide)) rfl h_chip rfl rfl (by decide) (by decide) rfl (Nat.le_of_ble_eq_true rfl) ?_
  exact rn_ret dX9_exception_139 trivial rfl
set_option maxRecDepth 20000 in
theorem f_sign_0 (hF : Fr S) : Cn l D ad tc L xs mX9_sign 0 0 [.ref 1, .int 0] (wd S E, sl) (some (.int 0)) (wd (pI S 0 2 0) E, sl) := by
  refine cn_of (lv0 := [(0, .ref 1), (1, .int 0)]) (by decide +kernel) ⟨_, rfl, rfl⟩ (fun _ => by simp [lg_sl, j_v, Value.category]) (fun _ => rfl) ?_
  refine rn_aload_n dX9_sign_0 rfl ?_
  refine rn_getfield dX9_sign_1 fo_X9_142 h_SH rfl ?_
  refine rn_topi (y := 0) hF.2.2.2.2.1 ?_
  refine rn_istore_n dX9_sign_4 (by decide) rfl ?_
  refine rn_aload_n dX9_sign_5 rfl ?_
  refine rn_iload_n dX9_sign_6 rfl ?_
  refine rn_pI dX9_sign_7 fp_X9_142 (by decide) rfl rfl (by simp) ⟨rfl, rfl⟩ ⟨_, _, _, rfl, rfl⟩ ?_
  refine rn_iload_n dX9_sign_10 rfl ?_
  exact rn_ret dX9_sign_11 trivial rfl
set_option maxRecDepth 20000 in
theorem f_sign_1 (hF : Fr S) : Cn l D ad tc L xs mX9_sign 0 0 [.ref 1, .int 1] (wd S E, sl) (some (.int 0)) (wd (pI S 0 2 1) E, sl) := by
  refine cn_of (lv0 := [(0, .ref 1), (1, .int 1)]) (by decide +kernel) ⟨_, rfl, rfl⟩ (fun _ => by simp [lg_sl, j_v, Value.category]) (fun _ => rfl) ?_
  refine rn_aload_n dX9_sign_0 rfl ?_
  refine rn_getfield dX9_sign_1 fo_X9_142 h_SH rfl ?_
  refine rn_topi (y := 0) hF.2.2.2.2.1 ?_
  refine rn_istore_n dX9_sign_4 (by decide) rfl ?_
  refine rn_aload_n dX9_sign_5 rfl ?_
  refine rn_iload_n dX9_sign_6 rfl ?_
  refine rn_pI dX9_sign_7 fp_X9_142 (by decide) rfl rfl (by simp) ⟨rfl, rfl⟩ ⟨_, _, _, rfl, rfl⟩ ?_
  refine rn_iload_n dX9_sign_10 rfl ?_
  exact rn_ret dX9_sign_11 trivial rfl
set_option maxRecDepth 20000 in
theorem f_knock (hF : Fr S) : Cn l D ad tc L xs mX9_knock 0 0 [.ref 1] (wd S E, sl) (some (.int 1)) (wd (pI S 0 3 1) E, sl) := by
  refine cn_of (lv0 := [(0, .ref 1)]) (by decide +kernel) ⟨_, rfl, rfl⟩ (fun _ => by simp [lg_sl, j_v, Value.category]) (fun _ => rfl) ?_
  refine rn_aload_n dX9_knock_0 rfl ?_
  refine rn_dup dX9_knock_1 rfl ?_
  refine rn_getfield dX9_knock_2 fo_X9_146 h_SH rfl ?_
  refine rn_topi (y := 0) hF.2.2.2.2.2 ?_
  refine rn_iconst (v := nI 1) dX9_knock_5 (by decide) ?_
  refine rn_iadd dX9_knock_6 ?_
  refine rn_topi (y := 1) (by decide) ?_
  refine rn_pI dX9_knock_7 fp_X9_146 (by decide) rfl rfl (by simp) ⟨rfl, rfl⟩ ⟨_, _, _, rfl, rfl⟩ ?_
  refine rn_aload_n dX9_knock_10 rfl ?_
  refine rn_getfield dX9_knock_11 fo_X9_146 h_SH rfl ?_
  refine rn_topi (y := 1) rfl ?_
  exact rn_ret dX9_knock_14 trivial rfl
theorem f_least_0 (hF : Fr S) : ∃ S', Fr S' ∧ Cn l D ad tc L xs mX9_least 6 154 [.ref 1, .int 0] (wd S E, sl) (some (.double (dv 409595904))) (wd S' E, sl) := by
  obtain ⟨S1, h1, c1⟩ := f_leastOfAll_0 (l := l) (D := D) (ad := ad) (tc := tc) (L := L) (xs := xs) (E := E) (sl := sl) hF
  refine ⟨S1, h1, ?_⟩
  refine cn_of (lv0 := [(0, .ref 1), (1, .int 0)]) (by decide +kernel) rfl (fun _ => by simp [lg_sl, j_v, Value.category]) (fun _ => rfl) ?_
  refine rn_aload_n dX9_least_0 rfl ?_
  refine rn_getfield dX9_least_1 fo_X9_21 h_SH rfl ?_
  refine rn_iload_n dX9_least_4 rfl ?_
  refine rn_callV dX9_least_5 cv_X9_215 c1 rfl h_an rfl rfl (by decide) (by decide) rfl (Nat.le_of_ble_eq_true rfl) ?_
  exact rn_ret dX9_least_8 trivial rfl
theorem f_least_1 (hF : Fr S) : ∃ S', Fr S' ∧ Cn l D ad tc L xs mX9_least 6 154 [.ref 1, .int 1] (wd S E, sl) (some (.double (dv 409595904))) (wd S' E, sl) := by
  obtain ⟨S1, h1, c1⟩ := f_leastOfAll_1 (l := l) (D := D) (ad := ad) (tc := tc) (L := L) (xs := xs) (E := E) (sl := sl) hF
  refine ⟨S1, h1, ?_⟩
  refine cn_of (lv0 := [(0, .ref 1), (1, .int 1)]) (by decide +kernel) rfl (fun _ => by simp [lg_sl, j_v, Value.category]) (fun _ => rfl) ?_
  refine rn_aload_n dX9_least_0 rfl ?_
  refine rn_getfield dX9_least_1 fo_X9_21 h_SH rfl ?_
  refine rn_iload_n dX9_least_4 rfl ?_
  refine rn_callV dX9_least_5 cv_X9_215 c1 rfl h_an rfl rfl (by decide) (by decide) rfl (Nat.le_of_ble_eq_true rfl) ?_
  exact rn_ret dX9_least_8 trivial rfl
theorem f_best (hF : Fr S) : ∃ S', Fr S' ∧ Cn l D ad tc L xs mX9_best 7 181 [.ref 1] (wd S E, sl) (some (.int (-1))) (wd S' E, sl) := by
  obtain ⟨S1, h1, c1⟩ := f_bestChange (l := l) (D := D) (ad := ad) (tc := tc) (L := L) (xs := xs) (E := E) (sl := sl) hF
  refine ⟨S1, h1, ?_⟩
  refine cn_of (lv0 := [(0, .ref 1)]) (by decide +kernel) ⟨_, rfl, rfl⟩ (fun _ => by simp [lg_sl, j_v, Value.category]) (fun _ => rfl) ?_
  refine rn_aload_n dX9_best_0 rfl ?_
  refine rn_getfield dX9_best_1 fo_X9_21 h_SH rfl ?_
  refine rn_callV dX9_best_4 cv_X9_222 c1 rfl h_an rfl rfl (by decide) (by decide) rfl (Nat.le_of_ble_eq_true rfl) ?_
  exact rn_ret dX9_best_7 trivial rfl
set_option maxRecDepth 20000 in
theorem f_isIdle (hF : Fr S) : Cn l D ad tc L xs mX9_isIdle 6 158 [.ref 1, .int 0] (wd S E, sl) (some (.int 0)) (wd S E, sl) := by
  refine cn_of (lv0 := [(0, .ref 1), (1, .int 0)]) (by decide +kernel) ⟨_, rfl, rfl⟩ (fun _ => by simp [lg_sl, j_v, Value.category]) (fun _ => rfl) ?_
  refine rn_aload_n dX9_isIdle_0 rfl ?_
  refine rn_getfield dX9_isIdle_1 fo_X9_12 h_SH rfl ?_
  refine rn_iload_n dX9_isIdle_4 rfl ?_
  refine rn_callV dX9_isIdle_5 cv_X9_161 c_X1_hasCorner rfl h_chip rfl rfl (by decide) (by decide) rfl (Nat.le_of_ble_eq_true rfl) ?_
  refine rn_topi (y := 1) (one_corner hF) ?_
  refine rn_callS dX9_isIdle_8 cs_X9_51 (c_X9_mustExist (by decide)) rfl (by decide) (by decide) rfl (Nat.le_of_ble_eq_true rfl) ?_
  refine rn_iconst (v := 0) dX9_isIdle_11 rfl ?_
  refine rn_istore_n dX9_isIdle_12 (by decide) rfl ?_
  refine rn_iload_n dX9_isIdle_13 rfl ?_
  refine rn_aload_n dX9_isIdle_14 rfl ?_
  refine rn_getfield dX9_isIdle_15 fo_X9_12 h_SH rfl ?_
  refine rn_getfield dX9_isIdle_18 fo_X9_75 h_chip rfl ?_
  refine rn_topi (y := 1) hF.2.1 ?_
  refine rn_icmp_ge (tgt := 49) dX9_isIdle_21 rfl (fun q => absurd q (by decide)) (fun _ => ?_)
  refine rn_iload_n dX9_isIdle_24 rfl ?_
  refine rn_iload_n dX9_isIdle_25 rfl ?_
  refine rn_icmp_eq (tgt := 43) dX9_isIdle_26 rfl (fun _ => ?_) (fun q => absurd (by decide) q)
  refine rn_iinc (v := 1) dX9_isIdle_43 rfl (by decide) (by decide) rfl ?_
  refine rn_goto (tgt := 13) dX9_isIdle_46 rfl ?_
  refine rn_iload_n dX9_isIdle_13 rfl ?_
  refine rn_aload_n dX9_isIdle_14 rfl ?_
  refine rn_getfield dX9_isIdle_15 fo_X9_12 h_SH rfl ?_
  refine rn_getfield dX9_isIdle_18 fo_X9_75 h_chip rfl ?_
  refine rn_topi (y := 1) hF.2.1 ?_
  refine rn_icmp_ge (tgt := 49) dX9_isIdle_21 rfl (fun _ => ?_) (fun q => absurd (by decide) q)
  refine rn_iconst (v := 0) dX9_isIdle_49 rfl ?_
  exact rn_ret dX9_isIdle_50 trivial rfl
set_option maxRecDepth 20000 in
theorem f_digest (hF : Fr S) : ∃ S', Fr S' ∧ Cn l D ad tc L xs mX9_digest 7 181 [.ref 1] (wd S E, sl) (some (.long (1549124912602722884))) (wd S' E, sl) := by
  obtain ⟨S1, h1, c1⟩ := f_many_0 (l := l) (D := D) (ad := ad) (tc := tc) (L := L) (xs := xs) (E := E) (sl := sl) hF
  obtain ⟨S2, h2, c2⟩ := f_many_1 (l := l) (D := D) (ad := ad) (tc := tc) (L := L) (xs := xs) (E := E) (sl := sl) h1
  obtain ⟨S3, h3, c3⟩ := f_many_2 (l := l) (D := D) (ad := ad) (tc := tc) (L := L) (xs := xs) (E := E) (sl := sl) h2
  obtain ⟨S4, h4, c4⟩ := f_many_3 (l := l) (D := D) (ad := ad) (tc := tc) (L := L) (xs := xs) (E := E) (sl := sl) h3
  obtain ⟨S5, h5, c5⟩ := f_many_4 (l := l) (D := D) (ad := ad) (tc := tc) (L := L) (xs := xs) (E := E) (sl := sl) h4
  obtain ⟨S6, h6, c6⟩ := f_many_5 (l := l) (D := D) (ad := ad) (tc := tc) (L := L) (xs := xs) (E := E) (sl := sl) h5
  obtain ⟨S7, h7, c7⟩ := f_many_6 (l := l) (D := D) (ad := ad) (tc := tc) (L := L) (xs := xs) (E := E) (sl := sl) h6
  obtain ⟨S8, h8, c8⟩ := f_many_7 (l := l) (D := D) (ad := ad) (tc := tc) (L := L) (xs := xs) (E := E) (sl := sl) h7
  obtain ⟨S9, h9, c9⟩ := f_many_8 (l := l) (D := D) (ad := ad) (tc := tc) (L := L) (xs := xs) (E := E) (sl := sl) h8
  obtain ⟨S10, h10, c10⟩ := f_many_9 (l := l) (D := D) (ad := ad) (tc := tc) (L := L) (xs := xs) (E := E) (sl := sl) h9
  obtain ⟨S11, h11, c11⟩ := f_many_10 (l := l) (D := D) (ad := ad) (tc := tc) (L := L) (xs := xs) (E := E) (sl := sl) h10
  obtain ⟨S12, h12, c12⟩ := f_bestChange (l := l) (D := D) (ad := ad) (tc := tc) (L := L) (xs := xs) (E := E) (sl := sl) h11
  refine ⟨S12, h12, ?_⟩
  have hF := h11
  refine cn_of (lv0 := [(0, .ref 1)]) (by decide +kernel) rfl (fun _ => by simp [lg_sl, j_v, Value.category]) (fun _ => rfl) ?_
  refine rn_ldc2 dX9_digest_0 wd_513 ?_
  refine rn_lstore_n dX9_digest_3 (by decide) rfl ?_
  refine rn_iconst (v := 0) dX9_digest_4 rfl ?_
  refine rn_istore_n dX9_digest_5 (by decide) rfl ?_
  refine rn_iload_n dX9_digest_6 rfl ?_
  refine rn_bipush (v := 10) dX9_digest_7 rfl ?_
  refine rn_icmp_gt (tgt := 31) dX9_digest_9 rfl (fun q => absurd q (by decide)) (fun _ => ?_)
  refine rn_lload_n dX9_digest_12 rfl ?_
  refine rn_ldc2 dX9_digest_13 wd_514 ?_
  refine rn_lmul dX9_digest_16 ?_
  refine rn_aload_n dX9_digest_17 rfl ?_
  refine rn_iload_n dX9_digest_18 rfl ?_
  refine rn_callV dX9_digest_19 cv_X9_233 c1 rfl h_SH rfl rfl (by decide) (by decide) rfl (Nat.le_of_ble_eq_true rfl) ?_
  refine rn_i2l dX9_digest_22 rfl ?_
  refine rn_ladd dX9_digest_23 ?_
  refine rn_topl (y := 297724) (by decide +kernel) ?_
  refine rn_lstore_n dX9_digest_24 (by decide) rfl ?_
  refine rn_iinc (v := 1) dX9_digest_25 rfl (by decide) (by decide) rfl ?_
  refine rn_goto (tgt := 6) dX9_digest_28 rfl ?_
  refine rn_iload_n dX9_digest_6 rfl ?_
  refine rn_bipush (v := 10) dX9_digest_7 rfl ?_
  refine rn_icmp_gt (tgt := 31) dX9_digest_9 rfl (fun q => absurd q (by decide)) (fun _ => ?_)
  refine rn_lload_n dX9_digest_12 rfl ?_
  refine rn_ldc2 dX9_digest_13 wd_514 ?_
  refine rn_lmul dX9_digest_16 ?_
  refine rn_aload_n dX9_digest_17 rfl ?_
  refine rn_iload_n dX9_digest_18 rfl ?_
  refine rn_callV dX9_digest_19 cv_X9_233 c2 rfl h_SH rfl rfl (by decide) (by decide) rfl (Nat.le_of_ble_eq_true rfl) ?_
  refine rn_i2l dX9_digest_22 rfl ?_
  refine rn_ladd dX9_digest_23 ?_
  refine rn_topl (y := 9229445) (by decide +kernel) ?_
  refine rn_lstore_n dX9_digest_24 (by decide) rfl ?_
  refine rn_iinc (v := 2) dX9_digest_25 rfl (by decide) (by decide) rfl ?_
  refine rn_goto (tgt := 6) dX9_digest_28 rfl ?_
  refine rn_iload_n dX9_digest_6 rfl ?_
  refine rn_bipush (v := 10) dX9_digest_7 rfl ?_
  refine rn_icmp_gt (tgt := 31) dX9_digest_9 rfl (fun q => absurd q (by decide)) (fun _ => ?_)
  refine rn_lload_n dX9_digest_12 rfl ?_
  refine rn_ldc2 dX9_digest_13 wd_514 ?_
  refine rn_lmul dX9_digest_16 ?_
  refine rn_aload_n dX9_digest_17 rfl ?_
  refine rn_iload_n dX9_digest_18 rfl ?_
  refine rn_callV dX9_digest_19 cv_X9_233 c3 rfl h_SH rfl rfl (by decide) (by decide) rfl (Nat.le_of_ble_eq_true rfl) ?_
  refine rn_i2l dX9_digest_22 rfl ?_
  refine rn_ladd dX9_digest_23 ?_
  refine rn_topl (y := 286112795) (by decide +kernel) ?_
  refine rn_lstore_n dX9_digest_24 (by decide) rfl ?_
  refine rn_iinc (v := 3) dX9_digest_25 rfl (by decide) (by decide) rfl ?_
  refine rn_goto (tgt := 6) dX9_digest_28 rfl ?_
  refine rn_iload_n dX9_digest_6 rfl ?_
  refine rn_bipush (v := 10) dX9_digest_7 rfl ?_
  refine rn_icmp_gt (tgt := 31) dX9_digest_9 rfl (fun q => absurd q (by decide)) (fun _ => ?_)
  refine rn_lload_n dX9_digest_12 rfl ?_
  refine rn_ldc2 dX9_digest_13 wd_514 ?_
  refine rn_lmul dX9_digest_16 ?_
  refine rn_aload_n dX9_digest_17 rfl ?_
  refine rn_iload_n dX9_digest_18 rfl ?_
  refine rn_callV dX9_digest_19 cv_X9_233 c4 rfl h_SH rfl rfl (by decide) (by decide) rfl (Nat.le_of_ble_eq_true rfl) ?_
  refine rn_i2l dX9_digest_22 rfl ?_
  refine rn_ladd dX9_digest_23 ?_
  refine rn_topl (y := 8869496645) (by decide +kernel) ?_
  refine rn_lstore_n dX9_digest_24 (by decide) rfl ?_
  refine rn_iinc (v := 4) dX9_digest_25 rfl (by decide) (by decide) rfl ?_
  refine rn_goto (tgt := 6) dX9_digest_28 rfl ?_
  refine rn_iload_n dX9_digest_6 rfl ?_
  refine rn_bipush (v := 10) dX9_digest_7 rfl ?_
  refine rn_icmp_gt (tgt := 31) dX9_digest_9 rfl (fun q => absurd q (by decide)) (fun _ => ?_)
  refine rn_lload_n dX9_digest_12 rfl ?_
  refine rn_ldc2 dX9_digest_13 wd_514 ?_
  refine rn_lmul dX9_digest_16 ?_
  refine rn_aload_n dX9_digest_17 rfl ?_
  refine rn_iload_n dX9_digest_18 rfl ?_
  refine rn_callV dX9_digest_19 cv_X9_233 c5 rfl h_SH rfl rfl (by decide) (by decide) rfl (Nat.le_of_ble_eq_true rfl) ?_
  refine rn_i2l dX9_digest_22 rfl ?_
  refine rn_ladd dX9_digest_23 ?_
  refine rn_topl (y := 274954395995) (by decide +kernel) ?_
  refine rn_lstore_n dX9_digest_24 (by decide) rfl ?_
  refine rn_iinc (v := 5) dX9_digest_25 rfl (by decide) (by decide) rfl ?_
  refine rn_goto (tgt := 6) dX9_digest_28 rfl ?_
  refine rn_iload_n dX9_digest_6 rfl ?_
  refine rn_bipush (v := 10) dX9_digest_7 rfl ?_
  refine rn_icmp_gt (tgt := 31) dX9_digest_9 rfl (fun q => absurd q (by decide)) (fun _ => ?_)
  refine rn_lload_n dX9_digest_12 rfl ?_
  refine rn_ldc2 dX9_digest_13 wd_514 ?_
  refine rn_lmul dX9_digest_16 ?_
  refine rn_aload_n dX9_digest_17 rfl ?_
  refine rn_iload_n dX9_digest_18 rfl ?_
  refine rn_callV dX9_digest_19 cv_X9_233 c6 rfl h_SH rfl rfl (by decide) (by decide) rfl (Nat.le_of_ble_eq_true rfl) ?_
  refine rn_i2l dX9_digest_22 rfl ?_
  refine rn_ladd dX9_digest_23 ?_
  refine rn_topl (y := 8523586275845) (by decide +kernel) ?_
  refine rn_lstore_n dX9_digest_24 (by decide) rfl ?_
  refine rn_iinc (v := 6) dX9_digest_25 rfl (by decide) (by decide) rfl ?_
  refine rn_goto (tgt := 6) dX9_digest_28 rfl ?_
  refine rn_iload_n dX9_digest_6 rfl ?_
  refine rn_bipush (v := 10) dX9_digest_7 rfl ?_
  refine rn_icmp_gt (tgt := 31) dX9_digest_9 rfl (fun q => absurd q (by decide)) (fun _ => ?_)
  refine rn_lload_n dX9_digest_12 rfl ?_
  refine rn_ldc2 dX9_digest_13 wd_514 ?_
  refine rn_lmul dX9_digest_16 ?_
  refine rn_aload_n dX9_digest_17 rfl ?_
  refine rn_iload_n dX9_digest_18 rfl ?_
  refine rn_callV dX9_digest_19 cv_X9_233 c7 rfl h_SH rfl rfl (by decide) (by decide) rfl (Nat.le_of_ble_eq_true rfl) ?_
  refine rn_i2l dX9_digest_22 rfl ?_
  refine rn_ladd dX9_digest_23 ?_
  refine rn_topl (y := 264231174551195) (by decide +kernel) ?_
  refine rn_lstore_n dX9_digest_24 (by decide) rfl ?_
  refine rn_iinc (v := 7) dX9_digest_25 rfl (by decide) (by decide) rfl ?_
  refine rn_goto (tgt := 6) dX9_digest_28 rfl ?_
  refine rn_iload_n dX9_digest_6 rfl ?_
  refine rn_bipush (v := 10) dX9_digest_7 rfl ?_
  refine rn_icmp_gt (tgt := 31) dX9_digest_9 rfl (fun q => absurd q (by decide)) (fun _ => ?_)
  refine rn_lload_n dX9_digest_12 rfl ?_
  refine rn_ldc2 dX9_digest_13 wd_514 ?_
  refine rn_lmul dX9_digest_16 ?_
  refine rn_aload_n dX9_digest_17 rfl ?_
  refine rn_iload_n dX9_digest_18 rfl ?_
  refine rn_callV dX9_digest_19 cv_X9_233 c8 rfl h_SH rfl rfl (by decide) (by decide) rfl (Nat.le_of_ble_eq_true rfl) ?_
  refine rn_i2l dX9_digest_22 rfl ?_
  refine rn_ladd dX9_digest_23 ?_
  refine rn_topl (y := 8191166411087045) (by decide +kernel) ?_
  refine rn_lstore_n dX9_digest_24 (by decide) rfl ?_
  refine rn_iinc (v := 8) dX9_digest_25 rfl (by decide) (by decide) rfl ?_
  refine rn_goto (tgt := 6) dX9_digest_28 rfl ?_
  refine rn_iload_n dX9_digest_6 rfl ?_
  refine rn_bipush (v := 10) dX9_digest_7 rfl ?_
  refine rn_icmp_gt (tgt := 31) dX9_digest_9 rfl (fun q => absurd q (by decide)) (fun _ => ?_)
  refine rn_lload_n dX9_digest_12 rfl ?_
  refine rn_ldc2 dX9_digest_13 wd_514 ?_
  refine rn_lmul dX9_digest_16 ?_
  refine rn_aload_n dX9_digest_17 rfl ?_
  refine rn_iload_n dX9_digest_18 rfl ?_
  refine rn_callV dX9_digest_19 cv_X9_233 c9 rfl h_SH rfl rfl (by decide) (by decide) rfl (Nat.le_of_ble_eq_true rfl) ?_
  refine rn_i2l dX9_digest_22 rfl ?_
  refine rn_ladd dX9_digest_23 ?_
  refine rn_topl (y := 253926158743698395) (by decide +kernel) ?_
  refine rn_lstore_n dX9_digest_24 (by decide) rfl ?_
  refine rn_iinc (v := 9) dX9_digest_25 rfl (by decide) (by decide) rfl ?_
  refine rn_goto (tgt := 6) dX9_digest_28 rfl ?_
  refine rn_iload_n dX9_digest_6 rfl ?_
  refine rn_bipush (v := 10) dX9_digest_7 rfl ?_
  refine rn_icmp_gt (tgt := 31) dX9_digest_9 rfl (fun q => absurd q (by decide)) (fun _ => ?_)
  refine rn_lload_n dX9_digest_12 rfl ?_
  refine rn_ldc2 dX9_digest_13 wd_514 ?_
  refine rn_lmul dX9_digest_16 ?_
  refine rn_aload_n dX9_digest_17 rfl ?_
  refine rn_iload_n dX9_digest_18 rfl ?_
  refine rn_callV dX9_digest_19 cv_X9_233 c10 rfl h_SH rfl rfl (by decide) (by decide) rfl (Nat.le_of_ble_eq_true rfl) ?_
  refine rn_i2l dX9_digest_22 rfl ?_
  refine rn_ladd dX9_digest_23 ?_
  refine rn_topl (y := 7871710921054650245) (by decide +kernel) ?_
  refine rn_lstore_n dX9_digest_24 (by decide) rfl ?_
  refine rn_iinc (v := 10) dX9_digest_25 rfl (by decide) (by decide) rfl ?_
  refine rn_goto (tgt := 6) dX9_digest_28 rfl ?_
  refine rn_iload_n dX9_digest_6 rfl ?_
  refine rn_bipush (v := 10) dX9_digest_7 rfl ?_
  refine rn_icmp_gt (tgt := 31) dX9_digest_9 rfl (fun q => absurd q (by decide)) (fun _ => ?_)
  refine rn_lload_n dX9_digest_12 rfl ?_
  refine rn_ldc2 dX9_digest_13 wd_514 ?_
  refine rn_lmul dX9_digest_16 ?_
  refine rn_aload_n dX9_digest_17 rfl ?_
  refine rn_iload_n dX9_digest_18 rfl ?_
  refine rn_callV dX9_digest_19 cv_X9_233 c11 rfl h_SH rfl rfl (by decide) (by decide) rfl (Nat.le_of_ble_eq_true rfl) ?_
  refine rn_i2l dX9_digest_22 rfl ?_
  refine rn_ladd dX9_digest_23 ?_
  refine rn_topl (y := 4215365594469986587) (by decide +kernel) ?_
  refine rn_lstore_n dX9_digest_24 (by decide) rfl ?_
  refine rn_iinc (v := 11) dX9_digest_25 rfl (by decide) (by decide) rfl ?_
  refine rn_goto (tgt := 6) dX9_digest_28 rfl ?_
  refine rn_iload_n dX9_digest_6 rfl ?_
  refine rn_bipush (v := 10) dX9_digest_7 rfl ?_
  refine rn_icmp_gt (tgt := 31) dX9_digest_9 rfl (fun _ => ?_) (fun q => absurd (by decide) q)
  refine rn_iconst (v := 0) dX9_digest_31 rfl ?_
  refine rn_istore_n dX9_digest_32 (by decide) rfl ?_
  refine rn_iload_n dX9_digest_33 rfl ?_
  refine rn_aload_n dX9_digest_34 rfl ?_
  refine rn_getfield dX9_digest_35 fo_X9_12 h_SH rfl ?_
  refine rn_getfield dX9_digest_38 fo_X9_25 h_chip rfl ?_
  refine rn_topi (y := 0) hF.2.2.1 ?_
  refine rn_icmp_ge (tgt := 80) dX9_digest_41 rfl (fun _ => ?_) (fun q => absurd (by decide) q)
  refine rn_iconst (v := 0) dX9_digest_80 rfl ?_
  refine rn_istore_n dX9_digest_81 (by decide) rfl ?_
  refine rn_iload_n dX9_digest_82 rfl ?_
  refine rn_aload_n dX9_digest_83 rfl ?_
  refine rn_getfield dX9_digest_84 fo_X9_12 h_SH rfl ?_
  refine rn_getfield dX9_digest_87 fo_X9_82 h_chip rfl ?_
  refine rn_topi (y := 0) hF.1 ?_
  refine rn_icmp_ge (tgt := 106) dX9_digest_90 rfl (fun _ => ?_) (fun q => absurd (by decide) q)
  refine rn_lload_n dX9_digest_106 rfl ?_
  refine rn_ldc2 dX9_digest_107 wd_514 ?_
  refine rn_lmul dX9_digest_110 ?_
  refine rn_aload_n dX9_digest_111 rfl ?_
  refine rn_getfield dX9_digest_112 fo_X9_21 h_SH rfl ?_
  refine rn_callV dX9_digest_115 cv_X9_222 c12 rfl h_an rfl rfl (by decide) (by decide) rfl (Nat.le_of_ble_eq_true rfl) ?_
  refine rn_i2l dX9_digest_118 rfl ?_
  refine rn_ladd dX9_digest_119 ?_
  refine rn_topl (y := 1549124912602722884) (by decide +kernel) ?_
  exact rn_ret dX9_digest_120 trivial rfl
end F2
