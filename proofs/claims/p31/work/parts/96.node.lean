/-! Telling: node, by its kind -/
section T22
variable {l : Launch} {D : va_G} {ad : Nat → Nat} {tc : Nat → ClassId} {L : Nat} {xs : Nat → Int32} {S : jS} {E : List j_C} {sl x : Nat}
set_option maxRecDepth 20000 in
theorem c_X9_node_0 {n nk v : Nat} {a1 b1 : Int32} (ho : sI S 0 2 = 0) (hN : sI S 1 6 = nI n) (hn : n < 16) (hK : sI S 1 4 = nI nk) (hk4 : nk ≤ 4) (hv : v < nk) : Cn l D ad tc L xs mX9_node 2 46 [.ref 1, .int 0, .int a1, .int b1, .int (nI v)] (wd S E, sl) (some (.int (nI n))) (wd (sNodC (sForget S) n 0 (-1) (-1) v) E, sl) := by
  refine cn_of (lv0 := [(0, .ref 1), (1, .int 0), (2, .int a1), (3, .int b1), (4, .int (nI v))]) (by decide +kernel) ⟨_, rfl, rfl⟩ (fun _ => by simp [lg_sl, j_v, Value.category]) (fun _ => rfl) ?_
  have hkF : sI (sForget S) 1 6 = nI n := ((TS_forget S).1 1 6 (by decide)).trans hN
  have hkC : sI (sForget S) 1 4 = nI nk := ((TS_forget S).1 1 4 (by decide)).trans hK
  refine rn_aload_n dX9_node_0 rfl ?_
  refine rn_aload_n dX9_node_1 rfl ?_
  refine rn_getfield dX9_node_2 fo_X9_12 h_SH rfl ?_
  refine rn_getfield dX9_node_5 fo_X9_82 h_chip rfl ?_
  refine rn_topi (y := nI n) (by first | exact hN | exact hkF) ?_
  refine rn_bipush (v := 16) dX9_node_8 rfl ?_
  refine rn_icmp_ge (tgt := 17) dX9_node_10 rfl (fun q1 => absurd q1 (by exact Int32.not_le.mpr (by rw [show (16 : Int32) = nI 16 by decide]; exact nI_lt hn (by omega)))) (fun _ => ?_)
  refine rn_iconst (v := 1) dX9_node_13 rfl ?_
  refine rn_goto (tgt := 18) dX9_node_14 rfl ?_
  refine rn_callV dX9_node_18 cv_X9_29 (c_X9_mustBeOpen ho (by decide)) rfl h_SH rfl rfl (by decide) (by decide) rfl (Nat.le_of_ble_eq_true rfl) ?_
  refine rn_iload_n dX9_node_21 rfl ?_
  refine rn_iconst (v := 1) dX9_node_22 rfl ?_
  refine rn_iconst (v := 5) dX9_node_23 rfl ?_
  refine rn_callS dX9_node_24 cs_X9_33 c_X9_isIn rfl (by decide) (by decide) rfl (Nat.le_of_ble_eq_true rfl) ?_
  refine rn_topi (y := 0) (by decide) ?_
  refine rn_if_ne (tgt := 42) dX9_node_27 rfl (fun q2 => absurd q2 (by decide)) (fun _ => ?_)
  refine rn_iload_n dX9_node_30 rfl ?_
  refine rn_bipush (v := 7) dX9_node_31 rfl ?_
  refine rn_icmp_eq (tgt := 42) dX9_node_33 rfl (fun q3 => absurd q3 (by decide)) (fun _ => ?_)
  refine rn_iload_n dX9_node_36 rfl ?_
  refine rn_bipush (v := 8) dX9_node_37 rfl ?_
  refine rn_icmp_ne (tgt := 46) dX9_node_39 rfl (fun _ => ?_) (fun q4 => absurd q4 (by decide))
  refine rn_iconst (v := 0) dX9_node_46 rfl ?_
  refine rn_istore dX9_node_47 (by decide) rfl ?_
  refine rn_iload_n dX9_node_49 rfl ?_
  refine rn_iconst (v := 3) dX9_node_50 rfl ?_
  refine rn_iconst (v := 5) dX9_node_51 rfl ?_
  refine rn_callS dX9_node_52 cs_X9_33 c_X9_isIn rfl (by decide) (by decide) rfl (Nat.le_of_ble_eq_true rfl) ?_
  refine rn_topi (y := 0) (by decide) ?_
  refine rn_istore dX9_node_55 (by decide) rfl ?_
  refine rn_iload_n dX9_node_57 rfl ?_
  refine rn_if_eq (tgt := 72) dX9_node_58 rfl (fun _ => ?_) (fun q5 => absurd (by decide) q5)
  refine rn_iconst (v := 1) dX9_node_72 rfl ?_
  refine rn_goto (tgt := 77) dX9_node_73 rfl ?_
  refine rn_istore dX9_node_77 (by decide) rfl ?_
  refine rn_iload dX9_node_79 rfl ?_
  refine rn_if_eq (tgt := 95) dX9_node_81 rfl (fun _ => ?_) (fun q6 => absurd (by decide) q6)
  refine rn_iload dX9_node_95 rfl ?_
  refine rn_if_eq (tgt := 111) dX9_node_97 rfl (fun _ => ?_) (fun q7 => absurd (by decide) q7)
  refine rn_iload dX9_node_111 rfl ?_
  refine rn_if_eq (tgt := 128) dX9_node_113 rfl (fun q8 => absurd q8 (by decide)) (fun _ => ?_)
  refine rn_aload_n dX9_node_116 rfl ?_
  refine rn_getfield dX9_node_117 fo_X9_12 h_SH rfl ?_
  refine rn_iload dX9_node_120 rfl ?_
  refine rn_callV dX9_node_122 cv_X9_47 c_X1_hasClock rfl h_chip rfl rfl (by decide) (by decide) rfl (Nat.le_of_ble_eq_true rfl) ?_
  refine rn_topi (is_b (decide_eq_true ⟨Int32.not_lt.mp (nI_pos (by omega)), by rw [hK]; exact nI_lt hv (by omega)⟩)) ?_
  refine rn_if_eq (tgt := 132) dX9_node_125 rfl (fun q9 => absurd q9 (by decide)) (fun _ => ?_)
  refine rn_iconst (v := 1) dX9_node_128 rfl ?_
  refine rn_goto (tgt := 133) dX9_node_129 rfl ?_
  refine rn_callS dX9_node_133 cs_X9_51 (c_X9_mustExist (by decide)) rfl (by decide) (by decide) rfl (Nat.le_of_ble_eq_true rfl) ?_
  refine rn_iload_n dX9_node_136 rfl ?_
  refine rn_iconst (v := 0) dX9_node_137 rfl ?_
  refine rn_bipush (v := 8) dX9_node_138 rfl ?_
  refine rn_callS dX9_node_140 cs_X9_33 c_X9_isIn rfl (by decide) (by decide) rfl (Nat.le_of_ble_eq_true rfl) ?_
  refine rn_topi (y := 1) (by decide) ?_
  refine rn_if_eq (tgt := 194) dX9_node_143 rfl (fun q10 => absurd q10 (by decide)) (fun _ => ?_)
  refine rn_iload dX9_node_146 rfl ?_
  refine rn_if_eq (tgt := 168) dX9_node_148 rfl (fun _ => ?_) (fun q11 => absurd (by decide) q11)
  refine rn_iload dX9_node_168 rfl ?_
  refine rn_if_eq (tgt := 190) dX9_node_170 rfl (fun _ => ?_) (fun q12 => absurd (by decide) q12)
  refine rn_iconst (v := 1) dX9_node_190 rfl ?_
  refine rn_goto (tgt := 195) dX9_node_191 rfl ?_
  refine rn_callS dX9_node_195 cs_X9_37 (c_X9_mustFit (by decide)) rfl (by decide) (by decide) rfl (Nat.le_of_ble_eq_true rfl) ?_
  refine rn_aload_n dX9_node_198 rfl ?_
  refine rn_getfield dX9_node_199 fo_X9_21 h_SH rfl ?_
  refine rn_callV dX9_node_202 cv_X9_40 c_X0_forget rfl h_an rfl rfl (by decide) (by decide) rfl (Nat.le_of_ble_eq_true rfl) ?_
  refine rn_aload_n dX9_node_205 rfl ?_
  refine rn_getfield dX9_node_206 fo_X9_12 h_SH rfl ?_
  refine rn_iload_n dX9_node_209 rfl ?_
  refine rn_iload dX9_node_210 rfl ?_
  refine rn_if_eq (tgt := 219) dX9_node_212 rfl (fun _ => ?_) (fun q13 => absurd (by decide) q13)
  refine rn_iconst (v := (-1)) dX9_node_219 rfl ?_
  refine rn_iload dX9_node_220 rfl ?_
  refine rn_if_eq (tgt := 229) dX9_node_222 rfl (fun _ => ?_) (fun q14 => absurd (by decide) q14)
  refine rn_iconst (v := (-1)) dX9_node_229 rfl ?_
  refine rn_iload dX9_node_230 rfl ?_
  refine rn_if_eq (tgt := 240) dX9_node_232 rfl (fun q15 => absurd q15 (by decide)) (fun _ => ?_)
  refine rn_iload dX9_node_235 rfl ?_
  refine rn_goto (tgt := 241) dX9_node_237 rfl ?_
  refine rn_callV dX9_node_241 cv_X9_97 (c_X1_addNode_c hkF hn hkC hk4 hv) rfl h_chip rfl rfl (by decide) (by decide) rfl (Nat.le_of_ble_eq_true rfl) ?_
  exact rn_ret dX9_node_244 trivial rfl
set_option maxRecDepth 20000 in
theorem c_X9_node_1 {n a : Nat} {b1 v1 : Int32} (ho : sI S 0 2 = 0) (hN : sI S 1 6 = nI n) (hn : n < 16) (ha : a < n) (h1 : ¬ kd S a = 8) : Cn l D ad tc L xs mX9_node 2 46 [.ref 1, .int 1, .int (nI a), .int b1, .int v1] (wd S E, sl) (some (.int (nI n))) (wd (sNod (sForget S) n 1 (nI a) (-1) (-1)) E, sl) := by
  refine cn_of (lv0 := [(0, .ref 1), (1, .int 1), (2, .int (nI a)), (3, .int b1), (4, .int v1)]) (by decide +kernel) ⟨_, rfl, rfl⟩ (fun _ => by simp [lg_sl, j_v, Value.category]) (fun _ => rfl) ?_
  have hkF : sI (sForget S) 1 6 = nI n := ((TS_forget S).1 1 6 (by decide)).trans hN
  refine rn_aload_n dX9_node_0 rfl ?_
  refine rn_aload_n dX9_node_1 rfl ?_
  refine rn_getfield dX9_node_2 fo_X9_12 h_SH rfl ?_
  refine rn_getfield dX9_node_5 fo_X9_82 h_chip rfl ?_
  refine rn_topi (y := nI n) (by first | exact hN | exact hkF) ?_
  refine rn_bipush (v := 16) dX9_node_8 rfl ?_
  refine rn_icmp_ge (tgt := 17) dX9_node_10 rfl (fun q1 => absurd q1 (by exact Int32.not_le.mpr (by rw [show (16 : Int32) = nI 16 by decide]; exact nI_lt hn (by omega)))) (fun _ => ?_)
  refine rn_iconst (v := 1) dX9_node_13 rfl ?_
  refine rn_goto (tgt := 18) dX9_node_14 rfl ?_
  refine rn_callV dX9_node_18 cv_X9_29 (c_X9_mustBeOpen ho (by decide)) rfl h_SH rfl rfl (by decide) (by decide) rfl (Nat.le_of_ble_eq_true rfl) ?_
  refine rn_iload_n dX9_node_21 rfl ?_
  refine rn_iconst (v := 1) dX9_node_22 rfl ?_
  refine rn_iconst (v := 5) dX9_node_23 rfl ?_
  refine rn_callS dX9_node_24 cs_X9_33 c_X9_isIn rfl (by decide) (by decide) rfl (Nat.le_of_ble_eq_true rfl) ?_
  refine rn_topi (y := 1) (by decide) ?_
  refine rn_if_ne (tgt := 42) dX9_node_27 rfl (fun _ => ?_) (fun q2 => absurd q2 (by decide))
  refine rn_iconst (v := 1) dX9_node_42 rfl ?_
  refine rn_goto (tgt := 47) dX9_node_43 rfl ?_
  refine rn_istore dX9_node_47 (by decide) rfl ?_
  refine rn_iload_n dX9_node_49 rfl ?_
  refine rn_iconst (v := 3) dX9_node_50 rfl ?_
  refine rn_iconst (v := 5) dX9_node_51 rfl ?_
  refine rn_callS dX9_node_52 cs_X9_33 c_X9_isIn rfl (by decide) (by decide) rfl (Nat.le_of_ble_eq_true rfl) ?_
  refine rn_topi (y := 0) (by decide) ?_
  refine rn_istore dX9_node_55 (by decide) rfl ?_
  refine rn_iload_n dX9_node_57 rfl ?_
  refine rn_if_eq (tgt := 72) dX9_node_58 rfl (fun q3 => absurd q3 (by decide)) (fun _ => ?_)
  refine rn_iload_n dX9_node_61 rfl ?_
  refine rn_bipush (v := 6) dX9_node_62 rfl ?_
  refine rn_bipush (v := 8) dX9_node_64 rfl ?_
  refine rn_callS dX9_node_66 cs_X9_33 c_X9_isIn rfl (by decide) (by decide) rfl (Nat.le_of_ble_eq_true rfl) ?_
  refine rn_topi (y := 0) (by decide) ?_
  refine rn_if_eq (tgt := 76) dX9_node_69 rfl (fun _ => ?_) (fun q4 => absurd (by decide) q4)
  refine rn_iconst (v := 0) dX9_node_76 rfl ?_
  refine rn_istore dX9_node_77 (by decide) rfl ?_
  refine rn_iload dX9_node_79 rfl ?_
  refine rn_if_eq (tgt := 95) dX9_node_81 rfl (fun q5 => absurd q5 (by decide)) (fun _ => ?_)
  refine rn_aload_n dX9_node_84 rfl ?_
  refine rn_getfield dX9_node_85 fo_X9_12 h_SH rfl ?_
  refine rn_iload_n dX9_node_88 rfl ?_
  refine rn_callV dX9_node_89 cv_X9_85 c_X1_hasNode rfl h_chip rfl rfl (by decide) (by decide) rfl (Nat.le_of_ble_eq_true rfl) ?_
  refine rn_topi (has_n hN (by omega) ha) ?_
  refine rn_if_eq (tgt := 132) dX9_node_92 rfl (fun q6 => absurd q6 (by decide)) (fun _ => ?_)
  refine rn_iload dX9_node_95 rfl ?_
  refine rn_if_eq (tgt := 111) dX9_node_97 rfl (fun _ => ?_) (fun q7 => absurd (by decide) q7)
  refine rn_iload dX9_node_111 rfl ?_
  refine rn_if_eq (tgt := 128) dX9_node_113 rfl (fun _ => ?_) (fun q8 => absurd (by decide) q8)
  refine rn_iconst (v := 1) dX9_node_128 rfl ?_
  refine rn_goto (tgt := 133) dX9_node_129 rfl ?_
  refine rn_callS dX9_node_133 cs_X9_51 (c_X9_mustExist (by decide)) rfl (by decide) (by decide) rfl (Nat.le_of_ble_eq_true rfl) ?_
  refine rn_iload_n dX9_node_136 rfl ?_
  refine rn_iconst (v := 0) dX9_node_137 rfl ?_
  refine rn_bipush (v := 8) dX9_node_138 rfl ?_
  refine rn_callS dX9_node_140 cs_X9_33 c_X9_isIn rfl (by decide) (by decide) rfl (Nat.le_of_ble_eq_true rfl) ?_
  refine rn_topi (y := 1) (by decide) ?_
  refine rn_if_eq (tgt := 194) dX9_node_143 rfl (fun q9 => absurd q9 (by decide)) (fun _ => ?_)
  refine rn_iload dX9_node_146 rfl ?_
  refine rn_if_eq (tgt := 168) dX9_node_148 rfl (fun q10 => absurd q10 (by decide)) (fun _ => ?_)
  refine rn_aload_n dX9_node_151 rfl ?_
  refine rn_getfield dX9_node_152 fo_X9_12 h_SH rfl ?_
  refine rn_getfield dX9_node_155 fo_X9_88 h_chip rfl ?_
  refine rn_iload_n dX9_node_158 rfl ?_
  refine rn_aaload dX9_node_159 h_nodes rfl (vp_in_nI (by omega) (by decide)) (refs_at rfl (by omega) (by decide)) ?_
  refine rn_getfield dX9_node_160 fo_X9_92 (h_node (by omega)) rfl ?_
  refine rn_bipush (v := 8) dX9_node_163 rfl ?_
  refine rn_icmp_eq (tgt := 194) dX9_node_165 rfl (fun q11 => absurd q11 (by exact h1)) (fun _ => ?_)
  refine rn_iload dX9_node_168 rfl ?_
  refine rn_if_eq (tgt := 190) dX9_node_170 rfl (fun _ => ?_) (fun q12 => absurd (by decide) q12)
  refine rn_iconst (v := 1) dX9_node_190 rfl ?_
  refine rn_goto (tgt := 195) dX9_node_191 rfl ?_
  refine rn_callS dX9_node_195 cs_X9_37 (c_X9_mustFit (by decide)) rfl (by decide) (by decide) rfl (Nat.le_of_ble_eq_true rfl) ?_
  refine rn_aload_n dX9_node_198 rfl ?_
  refine rn_getfield dX9_node_199 fo_X9_21 h_SH rfl ?_
  refine rn_callV dX9_node_202 cv_X9_40 c_X0_forget rfl h_an rfl rfl (by decide) (by decide) rfl (Nat.le_of_ble_eq_true rfl) ?_
  refine rn_aload_n dX9_node_205 rfl ?_
  refine rn_getfield dX9_node_206 fo_X9_12 h_SH rfl ?_
  refine rn_iload_n dX9_node_209 rfl ?_
  refine rn_iload dX9_node_210 rfl ?_
  refine rn_if_eq (tgt := 219) dX9_node_212 rfl (fun q13 => absurd q13 (by decide)) (fun _ => ?_)
  refine rn_iload_n dX9_node_215 rfl ?_
  refine rn_goto (tgt := 220) dX9_node_216 rfl ?_
  refine rn_iload dX9_node_220 rfl ?_
  refine rn_if_eq (tgt := 229) dX9_node_222 rfl (fun _ => ?_) (fun q14 => absurd (by decide) q14)
  refine rn_iconst (v := (-1)) dX9_node_229 rfl ?_
  refine rn_iload dX9_node_230 rfl ?_
  refine rn_if_eq (tgt := 240) dX9_node_232 rfl (fun _ => ?_) (fun q15 => absurd (by decide) q15)
  refine rn_iconst (v := (-1)) dX9_node_240 rfl ?_
  refine rn_callV dX9_node_241 cv_X9_97 (c_X1_addNode_0 hkF hn) rfl h_chip rfl rfl (by decide) (by decide) rfl (Nat.le_of_ble_eq_true rfl) ?_
  exact rn_ret dX9_node_244 trivial rfl
set_option maxRecDepth 20000 in
theorem c_X9_node_2 {n a : Nat} {b1 v1 : Int32} (ho : sI S 0 2 = 0) (hN : sI S 1 6 = nI n) (hn : n < 16) (ha : a < n) (h1 : ¬ kd S a = 8) : Cn l D ad tc L xs mX9_node 2 46 [.ref 1, .int 2, .int (nI a), .int b1, .int v1] (wd S E, sl) (some (.int (nI n))) (wd (sNod (sForget S) n 2 (nI a) (-1) (-1)) E, sl) := by
  refine cn_of (lv0 := [(0, .ref 1), (1, .int 2), (2, .int (nI a)), (3, .int b1), (4, .int v1)]) (by decide +kernel) ⟨_, rfl, rfl⟩ (fun _ => by simp [lg_sl, j_v, Value.category]) (fun _ => rfl) ?_
  have hkF : sI (sForget S) 1 6 = nI n := ((TS_forget S).1 1 6 (by decide)).trans hN
  refine rn_aload_n dX9_node_0 rfl ?_
  refine rn_aload_n dX9_node_1 rfl ?_
  refine rn_getfield dX9_node_2 fo_X9_12 h_SH rfl ?_
  refine rn_getfield dX9_node_5 fo_X9_82 h_chip rfl ?_
  refine rn_topi (y := nI n) (by first | exact hN | exact hkF) ?_
  refine rn_bipush (v := 16) dX9_node_8 rfl ?_
  refine rn_icmp_ge (tgt := 17) dX9_node_10 rfl (fun q1 => absurd q1 (by exact Int32.not_le.mpr (by rw [show (16 : Int32) = nI 16 by decide]; exact nI_lt hn (by omega)))) (fun _ => ?_)
  refine rn_iconst (v := 1) dX9_node_13 rfl ?_
  refine rn_goto (tgt := 18) dX9_node_14 rfl ?_
  refine rn_callV dX9_node_18 cv_X9_29 (c_X9_mustBeOpen ho (by decide)) rfl h_SH rfl rfl (by decide) (by decide) rfl (Nat.le_of_ble_eq_true rfl) ?_
  refine rn_iload_n dX9_node_21 rfl ?_
  refine rn_iconst (v := 1) dX9_node_22 rfl ?_
  refine rn_iconst (v := 5) dX9_node_23 rfl ?_
  refine rn_callS dX9_node_24 cs_X9_33 c_X9_isIn rfl (by decide) (by decide) rfl (Nat.le_of_ble_eq_true rfl) ?_
  refine rn_topi (y := 1) (by decide) ?_
  refine rn_if_ne (tgt := 42) dX9_node_27 rfl (fun _ => ?_) (fun q2 => absurd q2 (by decide))
  refine rn_iconst (v := 1) dX9_node_42 rfl ?_
  refine rn_goto (tgt := 47) dX9_node_43 rfl ?_
  refine rn_istore dX9_node_47 (by decide) rfl ?_
  refine rn_iload_n dX9_node_49 rfl ?_
  refine rn_iconst (v := 3) dX9_node_50 rfl ?_
  refine rn_iconst (v := 5) dX9_node_51 rfl ?_
  refine rn_callS dX9_node_52 cs_X9_33 c_X9_isIn rfl (by decide) (by decide) rfl (Nat.le_of_ble_eq_true rfl) ?_
  refine rn_topi (y := 0) (by decide) ?_
  refine rn_istore dX9_node_55 (by decide) rfl ?_
  refine rn_iload_n dX9_node_57 rfl ?_
  refine rn_if_eq (tgt := 72) dX9_node_58 rfl (fun q3 => absurd q3 (by decide)) (fun _ => ?_)
  refine rn_iload_n dX9_node_61 rfl ?_
  refine rn_bipush (v := 6) dX9_node_62 rfl ?_
  refine rn_bipush (v := 8) dX9_node_64 rfl ?_
  refine rn_callS dX9_node_66 cs_X9_33 c_X9_isIn rfl (by decide) (by decide) rfl (Nat.le_of_ble_eq_true rfl) ?_
  refine rn_topi (y := 0) (by decide) ?_
  refine rn_if_eq (tgt := 76) dX9_node_69 rfl (fun _ => ?_) (fun q4 => absurd (by decide) q4)
  refine rn_iconst (v := 0) dX9_node_76 rfl ?_
  refine rn_istore dX9_node_77 (by decide) rfl ?_
  refine rn_iload dX9_node_79 rfl ?_
  refine rn_if_eq (tgt := 95) dX9_node_81 rfl (fun q5 => absurd q5 (by decide)) (fun _ => ?_)
  refine rn_aload_n dX9_node_84 rfl ?_
  refine rn_getfield dX9_node_85 fo_X9_12 h_SH rfl ?_
  refine rn_iload_n dX9_node_88 rfl ?_
  refine rn_callV dX9_node_89 cv_X9_85 c_X1_hasNode rfl h_chip rfl rfl (by decide) (by decide) rfl (Nat.le_of_ble_eq_true rfl) ?_
  refine rn_topi (has_n hN (by omega) ha) ?_
  refine rn_if_eq (tgt := 132) dX9_node_92 rfl (fun q6 => absurd q6 (by decide)) (fun _ => ?_)
  refine rn_iload dX9_node_95 rfl ?_
  refine rn_if_eq (tgt := 111) dX9_node_97 rfl (fun _ => ?_) (fun q7 => absurd (by decide) q7)
  refine rn_iload dX9_node_111 rfl ?_
  refine rn_if_eq (tgt := 128) dX9_node_113 rfl (fun _ => ?_) (fun q8 => absurd (by decide) q8)
  refine rn_iconst (v := 1) dX9_node_128 rfl ?_
  refine rn_goto (tgt := 133) dX9_node_129 rfl ?_
  refine rn_callS dX9_node_133 cs_X9_51 (c_X9_mustExist (by decide)) rfl (by decide) (by decide) rfl (Nat.le_of_ble_eq_true rfl) ?_
  refine rn_iload_n dX9_node_136 rfl ?_
  refine rn_iconst (v := 0) dX9_node_137 rfl ?_
  refine rn_bipush (v := 8) dX9_node_138 rfl ?_
  refine rn_callS dX9_node_140 cs_X9_33 c_X9_isIn rfl (by decide) (by decide) rfl (Nat.le_of_ble_eq_true rfl) ?_
  refine rn_topi (y := 1) (by decide) ?_
  refine rn_if_eq (tgt := 194) dX9_node_143 rfl (fun q9 => absurd q9 (by decide)) (fun _ => ?_)
  refine rn_iload dX9_node_146 rfl ?_
  refine rn_if_eq (tgt := 168) dX9_node_148 rfl (fun q10 => absurd q10 (by decide)) (fun _ => ?_)
  refine rn_aload_n dX9_node_151 rfl ?_
  refine rn_getfield dX9_node_152 fo_X9_12 h_SH rfl ?_
  refine rn_getfield dX9_node_155 fo_X9_88 h_chip rfl ?_
  refine rn_iload_n dX9_node_158 rfl ?_
  refine rn_aaload dX9_node_159 h_nodes rfl (vp_in_nI (by omega) (by decide)) (refs_at rfl (by omega) (by decide)) ?_
  refine rn_getfield dX9_node_160 fo_X9_92 (h_node (by omega)) rfl ?_
  refine rn_bipush (v := 8) dX9_node_163 rfl ?_
  refine rn_icmp_eq (tgt := 194) dX9_node_165 rfl (fun q11 => absurd q11 (by exact h1)) (fun _ => ?_)
  refine rn_iload dX9_node_168 rfl ?_
  refine rn_if_eq (tgt := 190) dX9_node_170 rfl (fun _ => ?_) (fun q12 => absurd (by decide) q12)
  refine rn_iconst (v := 1) dX9_node_190 rfl ?_
  refine rn_goto (tgt := 195) dX9_node_191 rfl ?_
  refine rn_callS dX9_node_195 cs_X9_37 (c_X9_mustFit (by decide)) rfl (by decide) (by decide) rfl (Nat.le_of_ble_eq_true rfl) ?_
  refine rn_aload_n dX9_node_198 rfl ?_
  refine rn_getfield dX9_node_199 fo_X9_21 h_SH rfl ?_
  refine rn_callV dX9_node_202 cv_X9_40 c_X0_forget rfl h_an rfl rfl (by decide) (by decide) rfl (Nat.le_of_ble_eq_true rfl) ?_
  refine rn_aload_n dX9_node_205 rfl ?_
  refine rn_getfield dX9_node_206 fo_X9_12 h_SH rfl ?_
  refine rn_iload_n dX9_node_209 rfl ?_
  refine rn_iload dX9_node_210 rfl ?_
  refine rn_if_eq (tgt := 219) dX9_node_212 rfl (fun q13 => absurd q13 (by decide)) (fun _ => ?_)
  refine rn_iload_n dX9_node_215 rfl ?_
  refine rn_goto (tgt := 220) dX9_node_216 rfl ?_
  refine rn_iload dX9_node_220 rfl ?_
  refine rn_if_eq (tgt := 229) dX9_node_222 rfl (fun _ => ?_) (fun q14 => absurd (by decide) q14)
  refine rn_iconst (v := (-1)) dX9_node_229 rfl ?_
  refine rn_iload dX9_node_230 rfl ?_
  refine rn_if_eq (tgt := 240) dX9_node_232 rfl (fun _ => ?_) (fun q15 => absurd (by decide) q15)
  refine rn_iconst (v := (-1)) dX9_node_240 rfl ?_
  refine rn_callV dX9_node_241 cv_X9_97 (c_X1_addNode_0 hkF hn) rfl h_chip rfl rfl (by decide) (by decide) rfl (Nat.le_of_ble_eq_true rfl) ?_
  exact rn_ret dX9_node_244 trivial rfl
set_option maxRecDepth 20000 in
theorem c_X9_node_3 {n a b : Nat} {v1 : Int32} (ho : sI S 0 2 = 0) (hN : sI S 1 6 = nI n) (hn : n < 16) (ha : a < n) (h1 : ¬ kd S a = 8) (hb : b < n) (h2 : ¬ kd S b = 8) : Cn l D ad tc L xs mX9_node 2 46 [.ref 1, .int 3, .int (nI a), .int (nI b), .int v1] (wd S E, sl) (some (.int (nI n))) (wd (sNod (sForget S) n 3 (nI a) (nI b) (-1)) E, sl) := by
  refine cn_of (lv0 := [(0, .ref 1), (1, .int 3), (2, .int (nI a)), (3, .int (nI b)), (4, .int v1)]) (by decide +kernel) ⟨_, rfl, rfl⟩ (fun _ => by simp [lg_sl, j_v, Value.category]) (fun _ => rfl) ?_
  have hkF : sI (sForget S) 1 6 = nI n := ((TS_forget S).1 1 6 (by decide)).trans hN
  refine rn_aload_n dX9_node_0 rfl ?_
  refine rn_aload_n dX9_node_1 rfl ?_
  refine rn_getfield dX9_node_2 fo_X9_12 h_SH rfl ?_
  refine rn_getfield dX9_node_5 fo_X9_82 h_chip rfl ?_
  refine rn_topi (y := nI n) (by first | exact hN | exact hkF) ?_
  refine rn_bipush (v := 16) dX9_node_8 rfl ?_
  refine rn_icmp_ge (tgt := 17) dX9_node_10 rfl (fun q1 => absurd q1 (by exact Int32.not_le.mpr (by rw [show (16 : Int32) = nI 16 by decide]; exact nI_lt hn (by omega)))) (fun _ => ?_)
  refine rn_iconst (v := 1) dX9_node_13 rfl ?_
  refine rn_goto (tgt := 18) dX9_node_14 rfl ?_
  refine rn_callV dX9_node_18 cv_X9_29 (c_X9_mustBeOpen ho (by decide)) rfl h_SH rfl rfl (by decide) (by decide) rfl (Nat.le_of_ble_eq_true rfl) ?_
  refine rn_iload_n dX9_node_21 rfl ?_
  refine rn_iconst (v := 1) dX9_node_22 rfl ?_
  refine rn_iconst (v := 5) dX9_node_23 rfl ?_
  refine rn_callS dX9_node_24 cs_X9_33 c_X9_isIn rfl (by decide) (by decide) rfl (Nat.le_of_ble_eq_true rfl) ?_
  refine rn_topi (y := 1) (by decide) ?_
  refine rn_if_ne (tgt := 42) dX9_node_27 rfl (fun _ => ?_) (fun q2 => absurd q2 (by decide))
  refine rn_iconst (v := 1) dX9_node_42 rfl ?_
  refine rn_goto (tgt := 47) dX9_node_43 rfl ?_
  refine rn_istore dX9_node_47 (by decide) rfl ?_
  refine rn_iload_n dX9_node_49 rfl ?_
  refine rn_iconst (v := 3) dX9_node_50 rfl ?_
  refine rn_iconst (v := 5) dX9_node_51 rfl ?_
  refine rn_callS dX9_node_52 cs_X9_33 c_X9_isIn rfl (by decide) (by decide) rfl (Nat.le_of_ble_eq_true rfl) ?_
  refine rn_topi (y := 1) (by decide) ?_
  refine rn_istore dX9_node_55 (by decide) rfl ?_
  refine rn_iload_n dX9_node_57 rfl ?_
  refine rn_if_eq (tgt := 72) dX9_node_58 rfl (fun q3 => absurd q3 (by decide)) (fun _ => ?_)
  refine rn_iload_n dX9_node_61 rfl ?_
  refine rn_bipush (v := 6) dX9_node_62 rfl ?_
  refine rn_bipush (v := 8) dX9_node_64 rfl ?_
  refine rn_callS dX9_node_66 cs_X9_33 c_X9_isIn rfl (by decide) (by decide) rfl (Nat.le_of_ble_eq_true rfl) ?_
  refine rn_topi (y := 0) (by decide) ?_
  refine rn_if_eq (tgt := 76) dX9_node_69 rfl (fun _ => ?_) (fun q4 => absurd (by decide) q4)
  refine rn_iconst (v := 0) dX9_node_76 rfl ?_
  refine rn_istore dX9_node_77 (by decide) rfl ?_
  refine rn_iload dX9_node_79 rfl ?_
  refine rn_if_eq (tgt := 95) dX9_node_81 rfl (fun q5 => absurd q5 (by decide)) (fun _ => ?_)
  refine rn_aload_n dX9_node_84 rfl ?_
  refine rn_getfield dX9_node_85 fo_X9_12 h_SH rfl ?_
  refine rn_iload_n dX9_node_88 rfl ?_
  refine rn_callV dX9_node_89 cv_X9_85 c_X1_hasNode rfl h_chip rfl rfl (by decide) (by decide) rfl (Nat.le_of_ble_eq_true rfl) ?_
  refine rn_topi (has_n hN (by omega) ha) ?_
  refine rn_if_eq (tgt := 132) dX9_node_92 rfl (fun q6 => absurd q6 (by decide)) (fun _ => ?_)
  refine rn_iload dX9_node_95 rfl ?_
  refine rn_if_eq (tgt := 111) dX9_node_97 rfl (fun q7 => absurd q7 (by decide)) (fun _ => ?_)
  refine rn_aload_n dX9_node_100 rfl ?_
  refine rn_getfield dX9_node_101 fo_X9_12 h_SH rfl ?_
  refine rn_iload_n dX9_node_104 rfl ?_
  refine rn_callV dX9_node_105 cv_X9_85 c_X1_hasNode rfl h_chip rfl rfl (by decide) (by decide) rfl (Nat.le_of_ble_eq_true rfl) ?_
  refine rn_topi (has_n hN (by omega) hb) ?_
  refine rn_if_eq (tgt := 132) dX9_node_108 rfl (fun q8 => absurd q8 (by decide)) (fun _ => ?_)
  refine rn_iload dX9_node_111 rfl ?_
  refine rn_if_eq (tgt := 128) dX9_node_113 rfl (fun _ => ?_) (fun q9 => absurd (by decide) q9)
  refine rn_iconst (v := 1) dX9_node_128 rfl ?_
  refine rn_goto (tgt := 133) dX9_node_129 rfl ?_
  refine rn_callS dX9_node_133 cs_X9_51 (c_X9_mustExist (by decide)) rfl (by decide) (by decide) rfl (Nat.le_of_ble_eq_true rfl) ?_
  refine rn_iload_n dX9_node_136 rfl ?_
  refine rn_iconst (v := 0) dX9_node_137 rfl ?_
  refine rn_bipush (v := 8) dX9_node_138 rfl ?_
  refine rn_callS dX9_node_140 cs_X9_33 c_X9_isIn rfl (by decide) (by decide) rfl (Nat.le_of_ble_eq_true rfl) ?_
  refine rn_topi (y := 1) (by decide) ?_
  refine rn_if_eq (tgt := 194) dX9_node_143 rfl (fun q10 => absurd q10 (by decide)) (fun _ => ?_)
  refine rn_iload dX9_node_146 rfl ?_
  refine rn_if_eq (tgt := 168) dX9_node_148 rfl (fun q11 => absurd q11 (by decide)) (fun _ => ?_)
  refine rn_aload_n dX9_node_151 rfl ?_
  refine rn_getfield dX9_node_152 fo_X9_12 h_SH rfl ?_
  refine rn_getfield dX9_node_155 fo_X9_88 h_chip rfl ?_
  refine rn_iload_n dX9_node_158 rfl ?_
  refine rn_aaload dX9_node_159 h_nodes rfl (vp_in_nI (by omega) (by decide)) (refs_at rfl (by omega) (by decide)) ?_
  refine rn_getfield dX9_node_160 fo_X9_92 (h_node (by omega)) rfl ?_
  refine rn_bipush (v := 8) dX9_node_163 rfl ?_
  refine rn_icmp_eq (tgt := 194) dX9_node_165 rfl (fun q12 => absurd q12 (by exact h1)) (fun _ => ?_)
  refine rn_iload dX9_node_168 rfl ?_
  refine rn_if_eq (tgt := 190) dX9_node_170 rfl (fun q13 => absurd q13 (by decide)) (fun _ => ?_)
  refine rn_aload_n dX9_node_173 rfl ?_
  refine rn_getfield dX9_node_174 fo_X9_12 h_SH rfl ?_
  refine rn_getfield dX9_node_177 fo_X9_88 h_chip rfl ?_
  refine rn_iload_n dX9_node_180 rfl ?_
  refine rn_aaload dX9_node_181 h_nodes rfl (vp_in_nI (by omega) (by decide)) (refs_at rfl (by omega) (by decide)) ?_
  refine rn_getfield dX9_node_182 fo_X9_92 (h_node (by omega)) rfl ?_
  refine rn_bipush (v := 8) dX9_node_185 rfl ?_
  refine rn_icmp_eq (tgt := 194) dX9_node_187 rfl (fun q14 => absurd q14 (by exact h2)) (fun _ => ?_)
  refine rn_iconst (v := 1) dX9_node_190 rfl ?_
  refine rn_goto (tgt := 195) dX9_node_191 rfl ?_
  refine rn_callS dX9_node_195 cs_X9_37 (c_X9_mustFit (by decide)) rfl (by decide) (by decide) rfl (Nat.le_of_ble_eq_true rfl) ?_
  refine rn_aload_n dX9_node_198 rfl ?_
  refine rn_getfield dX9_node_199 fo_X9_21 h_SH rfl ?_
  refine rn_callV dX9_node_202 cv_X9_40 c_X0_forget rfl h_an rfl rfl (by decide) (by decide) rfl (Nat.le_of_ble_eq_true rfl) ?_
  refine rn_aload_n dX9_node_205 rfl ?_
  refine rn_getfield dX9_node_206 fo_X9_12 h_SH rfl ?_
  refine rn_iload_n dX9_node_209 rfl ?_
  refine rn_iload dX9_node_210 rfl ?_
  refine rn_if_eq (tgt := 219) dX9_node_212 rfl (fun q15 => absurd q15 (by decide)) (fun _ => ?_)
  refine rn_iload_n dX9_node_215 rfl ?_
  refine rn_goto (tgt := 220) dX9_node_216 rfl ?_
  refine rn_iload dX9_node_220 rfl ?_
  refine rn_if_eq (tgt := 229) dX9_node_222 rfl (fun q16 => absurd q16 (by decide)) (fun _ => ?_)
  refine rn_iload_n dX9_node_225 rfl ?_
  refine rn_goto (tgt := 230) dX9_node_226 rfl ?_
  refine rn_iload dX9_node_230 rfl ?_
  refine rn_if_eq (tgt := 240) dX9_node_232 rfl (fun _ => ?_) (fun q17 => absurd (by decide) q17)
  refine rn_iconst (v := (-1)) dX9_node_240 rfl ?_
  refine rn_callV dX9_node_241 cv_X9_97 (c_X1_addNode_0 hkF hn) rfl h_chip rfl rfl (by decide) (by decide) rfl (Nat.le_of_ble_eq_true rfl) ?_
  exact rn_ret dX9_node_244 trivial rfl
set_option maxRecDepth 20000 in
theorem c_X9_node_4 {n a b : Nat} {v1 : Int32} (ho : sI S 0 2 = 0) (hN : sI S 1 6 = nI n) (hn : n < 16) (ha : a < n) (h1 : ¬ kd S a = 8) (hb : b < n) (h2 : ¬ kd S b = 8) : Cn l D ad tc L xs mX9_node 2 46 [.ref 1, .int 4, .int (nI a), .int (nI b), .int v1] (wd S E, sl) (some (.int (nI n))) (wd (sNod (sForget S) n 4 (nI a) (nI b) (-1)) E, sl) := by
  refine cn_of (lv0 := [(0, .ref 1), (1, .int 4), (2, .int (nI a)), (3, .int (nI b)), (4, .int v1)]) (by decide +kernel) ⟨_, rfl, rfl⟩ (fun _ => by simp [lg_sl, j_v, Value.category]) (fun _ => rfl) ?_
  have hkF : sI (sForget S) 1 6 = nI n := ((TS_forget S).1 1 6 (by decide)).trans hN
  refine rn_aload_n dX9_node_0 rfl ?_
  refine rn_aload_n dX9_node_1 rfl ?_
  refine rn_getfield dX9_node_2 fo_X9_12 h_SH rfl ?_
  refine rn_getfield dX9_node_5 fo_X9_82 h_chip rfl ?_
  refine rn_topi (y := nI n) (by first | exact hN | exact hkF) ?_
  refine rn_bipush (v := 16) dX9_node_8 rfl ?_
  refine rn_icmp_ge (tgt := 17) dX9_node_10 rfl (fun q1 => absurd q1 (by exact Int32.not_le.mpr (by rw [show (16 : Int32) = nI 16 by decide]; exact nI_lt hn (by omega)))) (fun _ => ?_)
  refine rn_iconst (v := 1) dX9_node_13 rfl ?_
  refine rn_goto (tgt := 18) dX9_node_14 rfl ?_
  refine rn_callV dX9_node_18 cv_X9_29 (c_X9_mustBeOpen ho (by decide)) rfl h_SH rfl rfl (by decide) (by decide) rfl (Nat.le_of_ble_eq_true rfl) ?_
  refine rn_iload_n dX9_node_21 rfl ?_
  refine rn_iconst (v := 1) dX9_node_22 rfl ?_
  refine rn_iconst (v := 5) dX9_node_23 rfl ?_
  refine rn_callS dX9_node_24 cs_X9_33 c_X9_isIn rfl (by decide) (by decide) rfl (Nat.le_of_ble_eq_true rfl) ?_
  refine rn_topi (y := 1) (by decide) ?_
  refine rn_if_ne (tgt := 42) dX9_node_27 rfl (fun _ => ?_) (fun q2 => absurd q2 (by decide))
  refine rn_iconst (v := 1) dX9_node_42 rfl ?_
  refine rn_goto (tgt := 47) dX9_node_43 rfl ?_
  refine rn_istore dX9_node_47 (by decide) rfl ?_
  refine rn_iload_n dX9_node_49 rfl ?_
  refine rn_iconst (v := 3) dX9_node_50 rfl ?_
  refine rn_iconst (v := 5) dX9_node_51 rfl ?_
  refine rn_callS dX9_node_52 cs_X9_33 c_X9_isIn rfl (by decide) (by decide) rfl (Nat.le_of_ble_eq_true rfl) ?_
  refine rn_topi (y := 1) (by decide) ?_
  refine rn_istore dX9_node_55 (by decide) rfl ?_
  refine rn_iload_n dX9_node_57 rfl ?_
  refine rn_if_eq (tgt := 72) dX9_node_58 rfl (fun q3 => absurd q3 (by decide)) (fun _ => ?_)
  refine rn_iload_n dX9_node_61 rfl ?_
  refine rn_bipush (v := 6) dX9_node_62 rfl ?_
  refine rn_bipush (v := 8) dX9_node_64 rfl ?_
  refine rn_callS dX9_node_66 cs_X9_33 c_X9_isIn rfl (by decide) (by decide) rfl (Nat.le_of_ble_eq_true rfl) ?_
  refine rn_topi (y := 0) (by decide) ?_
  refine rn_if_eq (tgt := 76) dX9_node_69 rfl (fun _ => ?_) (fun q4 => absurd (by decide) q4)
  refine rn_iconst (v := 0) dX9_node_76 rfl ?_
  refine rn_istore dX9_node_77 (by decide) rfl ?_
  refine rn_iload dX9_node_79 rfl ?_
  refine rn_if_eq (tgt := 95) dX9_node_81 rfl (fun q5 => absurd q5 (by decide)) (fun _ => ?_)
  refine rn_aload_n dX9_node_84 rfl ?_
  refine rn_getfield dX9_node_85 fo_X9_12 h_SH rfl ?_
  refine rn_iload_n dX9_node_88 rfl ?_
  refine rn_callV dX9_node_89 cv_X9_85 c_X1_hasNode rfl h_chip rfl rfl (by decide) (by decide) rfl (Nat.le_of_ble_eq_true rfl) ?_
  refine rn_topi (has_n hN (by omega) ha) ?_
  refine rn_if_eq (tgt := 132) dX9_node_92 rfl (fun q6 => absurd q6 (by decide)) (fun _ => ?_)
  refine rn_iload dX9_node_95 rfl ?_
  refine rn_if_eq (tgt := 111) dX9_node_97 rfl (fun q7 => absurd q7 (by decide)) (fun _ => ?_)
  refine rn_aload_n dX9_node_100 rfl ?_
  refine rn_getfield dX9_node_101 fo_X9_12 h_SH rfl ?_
  refine rn_iload_n dX9_node_104 rfl ?_
  refine rn_callV dX9_node_105 cv_X9_85 c_X1_hasNode rfl h_chip rfl rfl (by decide) (by decide) rfl (Nat.le_of_ble_eq_true rfl) ?_
  refine rn_topi (has_n hN (by omega) hb) ?_
  refine rn_if_eq (tgt := 132) dX9_node_108 rfl (fun q8 => absurd q8 (by decide)) (fun _ => ?_)
  refine rn_iload dX9_node_111 rfl ?_
  refine rn_if_eq (tgt := 128) dX9_node_113 rfl (fun _ => ?_) (fun q9 => absurd (by decide) q9)
  refine rn_iconst (v := 1) dX9_node_128 rfl ?_
  refine rn_goto (tgt := 133) dX9_node_129 rfl ?_
  refine rn_callS dX9_node_133 cs_X9_51 (c_X9_mustExist (by decide)) rfl (by decide) (by decide) rfl (Nat.le_of_ble_eq_true rfl) ?_
  refine rn_iload_n dX9_node_136 rfl ?_
  refine rn_iconst (v := 0) dX9_node_137 rfl ?_
  refine rn_bipush (v := 8) dX9_node_138 rfl ?_
  refine rn_callS dX9_node_140 cs_X9_33 c_X9_isIn rfl (by decide) (by decide) rfl (Nat.le_of_ble_eq_true rfl) ?_
  refine rn_topi (y := 1) (by decide) ?_
  refine rn_if_eq (tgt := 194) dX9_node_143 rfl (fun q10 => absurd q10 (by decide)) (fun _ => ?_)
  refine rn_iload dX9_node_146 rfl ?_
  refine rn_if_eq (tgt := 168) dX9_node_148 rfl (fun q11 => absurd q11 (by decide)) (fun _ => ?_)
  refine rn_aload_n dX9_node_151 rfl ?_
  refine rn_getfield dX9_node_152 fo_X9_12 h_SH rfl ?_
  refine rn_getfield dX9_node_155 fo_X9_88 h_chip rfl ?_
  refine rn_iload_n dX9_node_158 rfl ?_
  refine rn_aaload dX9_node_159 h_nodes rfl (vp_in_nI (by omega) (by decide)) (refs_at rfl (by omega) (by decide)) ?_
  refine rn_getfield dX9_node_160 fo_X9_92 (h_node (by omega)) rfl ?_
  refine rn_bipush (v := 8) dX9_node_163 rfl ?_
  refine rn_icmp_eq (tgt := 194) dX9_node_165 rfl (fun q12 => absurd q12 (by exact h1)) (fun _ => ?_)
  refine rn_iload dX9_node_168 rfl ?_
  refine rn_if_eq (tgt := 190) dX9_node_170 rfl (fun q13 => absurd q13 (by decide)) (fun _ => ?_)
  refine rn_aload_n dX9_node_173 rfl ?_
  refine rn_getfield dX9_node_174 fo_X9_12 h_SH rfl ?_
  refine rn_getfield dX9_node_177 fo_X9_88 h_chip rfl ?_
  refine rn_iload_n dX9_node_180 rfl ?_
  refine rn_aaload dX9_node_181 h_nodes rfl (vp_in_nI (by omega) (by decide)) (refs_at rfl (by omega) (by decide)) ?_
  refine rn_getfield dX9_node_182 fo_X9_92 (h_node (by omega)) rfl ?_
  refine rn_bipush (v := 8) dX9_node_185 rfl ?_
  refine rn_icmp_eq (tgt := 194) dX9_node_187 rfl (fun q14 => absurd q14 (by exact h2)) (fun _ => ?_)
  refine rn_iconst (v := 1) dX9_node_190 rfl ?_
  refine rn_goto (tgt := 195) dX9_node_191 rfl ?_
  refine rn_callS dX9_node_195 cs_X9_37 (c_X9_mustFit (by decide)) rfl (by decide) (by decide) rfl (Nat.le_of_ble_eq_true rfl) ?_
  refine rn_aload_n dX9_node_198 rfl ?_
  refine rn_getfield dX9_node_199 fo_X9_21 h_SH rfl ?_
  refine rn_callV dX9_node_202 cv_X9_40 c_X0_forget rfl h_an rfl rfl (by decide) (by decide) rfl (Nat.le_of_ble_eq_true rfl) ?_
  refine rn_aload_n dX9_node_205 rfl ?_
  refine rn_getfield dX9_node_206 fo_X9_12 h_SH rfl ?_
  refine rn_iload_n dX9_node_209 rfl ?_
  refine rn_iload dX9_node_210 rfl ?_
  refine rn_if_eq (tgt := 219) dX9_node_212 rfl (fun q15 => absurd q15 (by decide)) (fun _ => ?_)
  refine rn_iload_n dX9_node_215 rfl ?_
  refine rn_goto (tgt := 220) dX9_node_216 rfl ?_
  refine rn_iload dX9_node_220 rfl ?_
  refine rn_if_eq (tgt := 229) dX9_node_222 rfl (fun q16 => absurd q16 (by decide)) (fun _ => ?_)
  refine rn_iload_n dX9_node_225 rfl ?_
  refine rn_goto (tgt := 230) dX9_node_226 rfl ?_
  refine rn_iload dX9_node_230 rfl ?_
  refine rn_if_eq (tgt := 240) dX9_node_232 rfl (fun _ => ?_) (fun q17 => absurd (by decide) q17)
  refine rn_iconst (v := (-1)) dX9_node_240 rfl ?_
  refine rn_callV dX9_node_241 cv_X9_97 (c_X1_addNode_0 hkF hn) rfl h_chip rfl rfl (by decide) (by decide) rfl (Nat.le_of_ble_eq_true rfl) ?_
  exact rn_ret dX9_node_244 trivial rfl
set_option maxRecDepth 20000 in
theorem c_X9_node_5 {n a b : Nat} {v1 : Int32} (ho : sI S 0 2 = 0) (hN : sI S 1 6 = nI n) (hn : n < 16) (ha : a < n) (h1 : ¬ kd S a = 8) (hb : b < n) (h2 : ¬ kd S b = 8) : Cn l D ad tc L xs mX9_node 2 46 [.ref 1, .int 5, .int (nI a), .int (nI b), .int v1] (wd S E, sl) (some (.int (nI n))) (wd (sNod (sForget S) n 5 (nI a) (nI b) (-1)) E, sl) := by
  refine cn_of (lv0 := [(0, .ref 1), (1, .int 5), (2, .int (nI a)), (3, .int (nI b)), (4, .int v1)]) (by decide +kernel) ⟨_, rfl, rfl⟩ (fun _ => by simp [lg_sl, j_v, Value.category]) (fun _ => rfl) ?_
  have hkF : sI (sForget S) 1 6 = nI n := ((TS_forget S).1 1 6 (by decide)).trans hN
  refine rn_aload_n dX9_node_0 rfl ?_
  refine rn_aload_n dX9_node_1 rfl ?_
  refine rn_getfield dX9_node_2 fo_X9_12 h_SH rfl ?_
  refine rn_getfield dX9_node_5 fo_X9_82 h_chip rfl ?_
  refine rn_topi (y := nI n) (by first | exact hN | exact hkF) ?_
  refine rn_bipush (v := 16) dX9_node_8 rfl ?_
  refine rn_icmp_ge (tgt := 17) dX9_node_10 rfl (fun q1 => absurd q1 (by exact Int32.not_le.mpr (by rw [show (16 : Int32) = nI 16 by decide]; exact nI_lt hn (by omega)))) (fun _ => ?_)
  refine rn_iconst (v := 1) dX9_node_13 rfl ?_
  refine rn_goto (tgt := 18) dX9_node_14 rfl ?_
  refine rn_callV dX9_node_18 cv_X9_29 (c_X9_mustBeOpen ho (by decide)) rfl h_SH rfl rfl (by decide) (by decide) rfl (Nat.le_of_ble_eq_true rfl) ?_
  refine rn_iload_n dX9_node_21 rfl ?_
  refine rn_iconst (v := 1) dX9_node_22 rfl ?_
  refine rn_iconst (v := 5) dX9_node_23 rfl ?_
  refine rn_callS dX9_node_24 cs_X9_33 c_X9_isIn rfl (by decide) (by decide) rfl (Nat.le_of_ble_eq_true rfl) ?_
  refine rn_topi (y := 1) (by decide) ?_
  refine rn_if_ne (tgt := 42) dX9_node_27 rfl (fun _ => ?_) (fun q2 => absurd q2 (by decide))
  refine rn_iconst (v := 1) dX9_node_42 rfl ?_
  refine rn_goto (tgt := 47) dX9_node_43 rfl ?_
  refine rn_istore dX9_node_47 (by decide) rfl ?_
  refine rn_iload_n dX9_node_49 rfl ?_
  refine rn_iconst (v := 3) dX9_node_50 rfl ?_
  refine rn_iconst (v := 5) dX9_node_51 rfl ?_
  refine rn_callS dX9_node_52 cs_X9_33 c_X9_isIn rfl (by decide) (by decide) rfl (Nat.le_of_ble_eq_true rfl) ?_
  refine rn_topi (y := 1) (by decide) ?_
  refine rn_istore dX9_node_55 (by decide) rfl ?_
  refine rn_iload_n dX9_node_57 rfl ?_
  refine rn_if_eq (tgt := 72) dX9_node_58 rfl (fun q3 => absurd q3 (by decide)) (fun _ => ?_)
  refine rn_iload_n dX9_node_61 rfl ?_
  refine rn_bipush (v := 6) dX9_node_62 rfl ?_
  refine rn_bipush (v := 8) dX9_node_64 rfl ?_
  refine rn_callS dX9_node_66 cs_X9_33 c_X9_isIn rfl (by decide) (by decide) rfl (Nat.le_of_ble_eq_true rfl) ?_
  refine rn_topi (y := 0) (by decide) ?_
  refine rn_if_eq (tgt := 76) dX9_node_69 rfl (fun _ => ?_) (fun q4 => absurd (by decide) q4)
  refine rn_iconst (v := 0) dX9_node_76 rfl ?_
  refine rn_istore dX9_node_77 (by decide) rfl ?_
  refine rn_iload dX9_node_79 rfl ?_
  refine rn_if_eq (tgt := 95) dX9_node_81 rfl (fun q5 => absurd q5 (by decide)) (fun _ => ?_)
  refine rn_aload_n dX9_node_84 rfl ?_
  refine rn_getfield dX9_node_85 fo_X9_12 h_SH rfl ?_
  refine rn_iload_n dX9_node_88 rfl ?_
  refine rn_callV dX9_node_89 cv_X9_85 c_X1_hasNode rfl h_chip rfl rfl (by decide) (by decide) rfl (Nat.le_of_ble_eq_true rfl) ?_
  refine rn_topi (has_n hN (by omega) ha) ?_
  refine rn_if_eq (tgt := 132) dX9_node_92 rfl (fun q6 => absurd q6 (by decide)) (fun _ => ?_)
  refine rn_iload dX9_node_95 rfl ?_
  refine rn_if_eq (tgt := 111) dX9_node_97 rfl (fun q7 => absurd q7 (by decide)) (fun _ => ?_)
  refine rn_aload_n dX9_node_100 rfl ?_
  refine rn_getfield dX9_node_101 fo_X9_12 h_SH rfl ?_
  refine rn_iload_n dX9_node_104 rfl ?_
  refine rn_callV dX9_node_105 cv_X9_85 c_X1_hasNode rfl h_chip rfl rfl (by decide) (by decide) rfl (Nat.le_of_ble_eq_true rfl) ?_
  refine rn_topi (has_n hN (by omega) hb) ?_
  refine rn_if_eq (tgt := 132) dX9_node_108 rfl (fun q8 => absurd q8 (by decide)) (fun _ => ?_)
  refine rn_iload dX9_node_111 rfl ?_
  refine rn_if_eq (tgt := 128) dX9_node_113 rfl (fun _ => ?_) (fun q9 => absurd (by decide) q9)
  refine rn_iconst (v := 1) dX9_node_128 rfl ?_
  refine rn_goto (tgt := 133) dX9_node_129 rfl ?_
  refine rn_callS dX9_node_133 cs_X9_51 (c_X9_mustExist (by decide)) rfl (by decide) (by decide) rfl (Nat.le_of_ble_eq_true rfl) ?_
  refine rn_iload_n dX9_node_136 rfl ?_
  refine rn_iconst (v := 0) dX9_node_137 rfl ?_
  refine rn_bipush (v := 8) dX9_node_138 rfl ?_
  refine rn_callS dX9_node_140 cs_X9_33 c_X9_isIn rfl (by decide) (by decide) rfl (Nat.le_of_ble_eq_true rfl) ?_
  refine rn_topi (y := 1) (by decide) ?_
  refine rn_if_eq (tgt := 194) dX9_node_143 rfl (fun q10 => absurd q10 (by decide)) (fun _ => ?_)
  refine rn_iload dX9_node_146 rfl ?_
  refine rn_if_eq (tgt := 168) dX9_node_148 rfl (fun q11 => absurd q11 (by decide)) (fun _ => ?_)
  refine rn_aload_n dX9_node_151 rfl ?_
  refine rn_getfield dX9_node_152 fo_X9_12 h_SH rfl ?_
  refine rn_getfield dX9_node_155 fo_X9_88 h_chip rfl ?_
  refine rn_iload_n dX9_node_158 rfl ?_
  refine rn_aaload dX9_node_159 h_nodes rfl (vp_in_nI (by omega) (by decide)) (refs_at rfl (by omega) (by decide)) ?_
  refine rn_getfield dX9_node_160 fo_X9_92 (h_node (by omega)) rfl ?_
  refine rn_bipush (v := 8) dX9_node_163 rfl ?_
  refine rn_icmp_eq (tgt := 194) dX9_node_165 rfl (fun q12 => absurd q12 (by exact h1)) (fun _ => ?_)
  refine rn_iload dX9_node_168 rfl ?_
  refine rn_if_eq (tgt := 190) dX9_node_170 rfl (fun q13 => absurd q13 (by decide)) (fun _ => ?_)
  refine rn_aload_n dX9_node_173 rfl ?_
  refine rn_getfield dX9_node_174 fo_X9_12 h_SH rfl ?_
  refine rn_getfield dX9_node_177 fo_X9_88 h_chip rfl ?_
  refine rn_iload_n dX9_node_180 rfl ?_
  refine rn_aaload dX9_node_181 h_nodes rfl (vp_in_nI (by omega) (by decide)) (refs_at rfl (by omega) (by decide)) ?_
  refine rn_getfield dX9_node_182 fo_X9_92 (h_node (by omega)) rfl ?_
  refine rn_bipush (v := 8) dX9_node_185 rfl ?_
  refine rn_icmp_eq (tgt := 194) dX9_node_187 rfl (fun q14 => absurd q14 (by exact h2)) (fun _ => ?_)
  refine rn_iconst (v := 1) dX9_node_190 rfl ?_
  refine rn_goto (tgt := 195) dX9_node_191 rfl ?_
  refine rn_callS dX9_node_195 cs_X9_37 (c_X9_mustFit (by decide)) rfl (by decide) (by decide) rfl (Nat.le_of_ble_eq_true rfl) ?_
  refine rn_aload_n dX9_node_198 rfl ?_
  refine rn_getfield dX9_node_199 fo_X9_21 h_SH rfl ?_
  refine rn_callV dX9_node_202 cv_X9_40 c_X0_forget rfl h_an rfl rfl (by decide) (by decide) rfl (Nat.le_of_ble_eq_true rfl) ?_
  refine rn_aload_n dX9_node_205 rfl ?_
  refine rn_getfield dX9_node_206 fo_X9_12 h_SH rfl ?_
  refine rn_iload_n dX9_node_209 rfl ?_
  refine rn_iload dX9_node_210 rfl ?_
  refine rn_if_eq (tgt := 219) dX9_node_212 rfl (fun q15 => absurd q15 (by decide)) (fun _ => ?_)
  refine rn_iload_n dX9_node_215 rfl ?_
  refine rn_goto (tgt := 220) dX9_node_216 rfl ?_
  refine rn_iload dX9_node_220 rfl ?_
  refine rn_if_eq (tgt := 229) dX9_node_222 rfl (fun q16 => absurd q16 (by decide)) (fun _ => ?_)
  refine rn_iload_n dX9_node_225 rfl ?_
  refine rn_goto (tgt := 230) dX9_node_226 rfl ?_
  refine rn_iload dX9_node_230 rfl ?_
  refine rn_if_eq (tgt := 240) dX9_node_232 rfl (fun _ => ?_) (fun q17 => absurd (by decide) q17)
  refine rn_iconst (v := (-1)) dX9_node_240 rfl ?_
  refine rn_callV dX9_node_241 cv_X9_97 (c_X1_addNode_0 hkF hn) rfl h_chip rfl rfl (by decide) (by decide) rfl (Nat.le_of_ble_eq_true rfl) ?_
  exact rn_ret dX9_node_244 trivial rfl
set_option maxRecDepth 20000 in
theorem c_X9_node_6 {n nk v : Nat} {a1 b1 : Int32} (ho : sI S 0 2 = 0) (hN : sI S 1 6 = nI n) (hn : n < 16) (hK : sI S 1 4 = nI nk) (hk4 : nk ≤ 4) (hv : v < nk) : Cn l D ad tc L xs mX9_node 2 46 [.ref 1, .int 6, .int a1, .int b1, .int (nI v)] (wd S E, sl) (some (.int (nI n))) (wd (sNodC (sForget S) n 6 (-1) (-1) v) E, sl) := by
  refine cn_of (lv0 := [(0, .ref 1), (1, .int 6), (2, .int a1), (3, .int b1), (4, .int (nI v))]) (by decide +kernel) ⟨_, rfl, rfl⟩ (fun _ => by simp [lg_sl, j_v, Value.category]) (fun _ => rfl) ?_
  have hkF : sI (sForget S) 1 6 = nI n := ((TS_forget S).1 1 6 (by decide)).trans hN
  have hkC : sI (sForget S) 1 4 = nI nk := ((TS_forget S).1 1 4 (by decide)).trans hK
  refine rn_aload_n dX9_node_0 rfl ?_
  refine rn_aload_n dX9_node_1 rfl ?_
  refine rn_getfield dX9_node_2 fo_X9_12 h_SH rfl ?_
  refine rn_getfield dX9_node_5 fo_X9_82 h_chip rfl ?_
  refine rn_topi (y := nI n) (by first | exact hN | exact hkF) ?_
  refine rn_bipush (v := 16) dX9_node_8 rfl ?_
  refine rn_icmp_ge (tgt := 17) dX9_node_10 rfl (fun q1 => absurd q1 (by exact Int32.not_le.mpr (by rw [show (16 : Int32) = nI 16 by decide]; exact nI_lt hn (by omega)))) (fun _ => ?_)
  refine rn_iconst (v := 1) dX9_node_13 rfl ?_
  refine rn_goto (tgt := 18) dX9_node_14 rfl ?_
  refine rn_callV dX9_node_18 cv_X9_29 (c_X9_mustBeOpen ho (by decide)) rfl h_SH rfl rfl (by decide) (by decide) rfl (Nat.le_of_ble_eq_true rfl) ?_
  refine rn_iload_n dX9_node_21 rfl ?_
  refine rn_iconst (v := 1) dX9_node_22 rfl ?_
  refine rn_iconst (v := 5) dX9_node_23 rfl ?_
  refine rn_callS dX9_node_24 cs_X9_33 c_X9_isIn rfl (by decide) (by decide) rfl (Nat.le_of_ble_eq_true rfl) ?_
  refine rn_topi (y := 0) (by decide) ?_
  refine rn_if_ne (tgt := 42) dX9_node_27 rfl (fun q2 => absurd q2 (by decide)) (fun _ => ?_)
  refine rn_iload_n dX9_node_30 rfl ?_
  refine rn_bipush (v := 7) dX9_node_31 rfl ?_
  refine rn_icmp_eq (tgt := 42) dX9_node_33 rfl (fun q3 => absurd q3 (by decide)) (fun _ => ?_)
  refine rn_iload_n dX9_node_36 rfl ?_
  refine rn_bipush (v := 8) dX9_node_37 rfl ?_
  refine rn_icmp_ne (tgt := 46) dX9_node_39 rfl (fun _ => ?_) (fun q4 => absurd q4 (by decide))
  refine rn_iconst (v := 0) dX9_node_46 rfl ?_
  refine rn_istore dX9_node_47 (by decide) rfl ?_
  refine rn_iload_n dX9_node_49 rfl ?_
  refine rn_iconst (v := 3) dX9_node_50 rfl ?_
  refine rn_iconst (v := 5) dX9_node_51 rfl ?_
  refine rn_callS dX9_node_52 cs_X9_33 c_X9_isIn rfl (by decide) (by decide) rfl (Nat.le_of_ble_eq_true rfl) ?_
  refine rn_topi (y := 0) (by decide) ?_
  refine rn_istore dX9_node_55 (by decide) rfl ?_
  refine rn_iload_n dX9_node_57 rfl ?_
  refine rn_if_eq (tgt := 72) dX9_node_58 rfl (fun q5 => absurd q5 (by decide)) (fun _ => ?_)
  refine rn_iload_n dX9_node_61 rfl ?_
  refine rn_bipush (v := 6) dX9_node_62 rfl ?_
  refine rn_bipush (v := 8) dX9_node_64 rfl ?_
  refine rn_callS dX9_node_66 cs_X9_33 c_X9_isIn rfl (by decide) (by decide) rfl (Nat.le_of_ble_eq_true rfl) ?_
  refine rn_topi (y := 1) (by decide) ?_
  refine rn_if_eq (tgt := 76) dX9_node_69 rfl (fun q6 => absurd q6 (by decide)) (fun _ => ?_)
  refine rn_iconst (v := 1) dX9_node_72 rfl ?_
  refine rn_goto (tgt := 77) dX9_node_73 rfl ?_
  refine rn_istore dX9_node_77 (by decide) rfl ?_
  refine rn_iload dX9_node_79 rfl ?_
  refine rn_if_eq (tgt := 95) dX9_node_81 rfl (fun _ => ?_) (fun q7 => absurd (by decide) q7)
  refine rn_iload dX9_node_95 rfl ?_
  refine rn_if_eq (tgt := 111) dX9_node_97 rfl (fun _ => ?_) (fun q8 => absurd (by decide) q8)
  refine rn_iload dX9_node_111 rfl ?_
  refine rn_if_eq (tgt := 128) dX9_node_113 rfl (fun q9 => absurd q9 (by decide)) (fun _ => ?_)
  refine rn_aload_n dX9_node_116 rfl ?_
  refine rn_getfield dX9_node_117 fo_X9_12 h_SH rfl ?_
  refine rn_iload dX9_node_120 rfl ?_
  refine rn_callV dX9_node_122 cv_X9_47 c_X1_hasClock rfl h_chip rfl rfl (by decide) (by decide) rfl (Nat.le_of_ble_eq_true rfl) ?_
  refine rn_topi (is_b (decide_eq_true ⟨Int32.not_lt.mp (nI_pos (by omega)), by rw [hK]; exact nI_lt hv (by omega)⟩)) ?_
  refine rn_if_eq (tgt := 132) dX9_node_125 rfl (fun q10 => absurd q10 (by decide)) (fun _ => ?_)
  refine rn_iconst (v := 1) dX9_node_128 rfl ?_
  refine rn_goto (tgt := 133) dX9_node_129 rfl ?_
  refine rn_callS dX9_node_133 cs_X9_51 (c_X9_mustExist (by decide)) rfl (by decide) (by decide) rfl (Nat.le_of_ble_eq_true rfl) ?_
  refine rn_iload_n dX9_node_136 rfl ?_
  refine rn_iconst (v := 0) dX9_node_137 rfl ?_
  refine rn_bipush (v := 8) dX9_node_138 rfl ?_
  refine rn_callS dX9_node_140 cs_X9_33 c_X9_isIn rfl (by decide) (by decide) rfl (Nat.le_of_ble_eq_true rfl) ?_
  refine rn_topi (y := 1) (by decide) ?_
  refine rn_if_eq (tgt := 194) dX9_node_143 rfl (fun q11 => absurd q11 (by decide)) (fun _ => ?_)
  refine rn_iload dX9_node_146 rfl ?_
  refine rn_if_eq (tgt := 168) dX9_node_148 rfl (fun _ => ?_) (fun q12 => absurd (by decide) q12)
  refine rn_iload dX9_node_168 rfl ?_
  refine rn_if_eq (tgt := 190) dX9_node_170 rfl (fun _ => ?_) (fun q13 => absurd (by decide) q13)
  refine rn_iconst (v := 1) dX9_node_190 rfl ?_
  refine rn_goto (tgt := 195) dX9_node_191 rfl ?_
  refine rn_callS dX9_node_195 cs_X9_37 (c_X9_mustFit (by decide)) rfl (by decide) (by decide) rfl (Nat.le_of_ble_eq_true rfl) ?_
  refine rn_aload_n dX9_node_198 rfl ?_
  refine rn_getfield dX9_node_199 fo_X9_21 h_SH rfl ?_
  refine rn_callV dX9_node_202 cv_X9_40 c_X0_forget rfl h_an rfl rfl (by decide) (by decide) rfl (Nat.le_of_ble_eq_true rfl) ?_
  refine rn_aload_n dX9_node_205 rfl ?_
  refine rn_getfield dX9_node_206 fo_X9_12 h_SH rfl ?_
  refine rn_iload_n dX9_node_209 rfl ?_
  refine rn_iload dX9_node_210 rfl ?_
  refine rn_if_eq (tgt := 219) dX9_node_212 rfl (fun _ => ?_) (fun q14 => absurd (by decide) q14)
  refine rn_iconst (v := (-1)) dX9_node_219 rfl ?_
  refine rn_iload dX9_node_220 rfl ?_
  refine rn_if_eq (tgt := 229) dX9_node_222 rfl (fun _ => ?_) (fun q15 => absurd (by decide) q15)
  refine rn_iconst (v := (-1)) dX9_node_229 rfl ?_
  refine rn_iload dX9_node_230 rfl ?_
  refine rn_if_eq (tgt := 240) dX9_node_232 rfl (fun q16 => absurd q16 (by decide)) (fun _ => ?_)
  refine rn_iload dX9_node_235 rfl ?_
  refine rn_goto (tgt := 241) dX9_node_237 rfl ?_
  refine rn_callV dX9_node_241 cv_X9_97 (c_X1_addNode_c hkF hn hkC hk4 hv) rfl h_chip rfl rfl (by decide) (by decide) rfl (Nat.le_of_ble_eq_true rfl) ?_
  exact rn_ret dX9_node_244 trivial rfl
set_option maxRecDepth 20000 in
theorem c_X9_node_7 {n nk v a : Nat} {b1 : Int32} (ho : sI S 0 2 = 0) (hN : sI S 1 6 = nI n) (hn : n < 16) (ha : a < n) (h1 : ¬ kd S a = 8) (hK : sI S 1 4 = nI nk) (hk4 : nk ≤ 4) (hv : v < nk) : Cn l D ad tc L xs mX9_node 2 46 [.ref 1, .int 7, .int (nI a), .int b1, .int (nI v)] (wd S E, sl) (some (.int (nI n))) (wd (sNodC (sForget S) n 7 (nI a) (-1) v) E, sl) := by
  refine cn_of (lv0 := [(0, .ref 1), (1, .int 7), (2, .int (nI a)), (3, .int b1), (4, .int (nI v))]) (by decide +kernel) ⟨_, rfl, rfl⟩ (fun _ => by simp [lg_sl, j_v, Value.category]) (fun _ => rfl) ?_
  have hkF : sI (sForget S) 1 6 = nI n := ((TS_forget S).1 1 6 (by decide)).trans hN
  have hkC : sI (sForget S) 1 4 = nI nk := ((TS_forget S).1 1 4 (by decide)).trans hK
  refine rn_aload_n dX9_node_0 rfl ?_
  refine rn_aload_n dX9_node_1 rfl ?_
  refine rn_getfield dX9_node_2 fo_X9_12 h_SH rfl ?_
  refine rn_getfield dX9_node_5 fo_X9_82 h_chip rfl ?_
  refine rn_topi (y := nI n) (by first | exact hN | exact hkF) ?_
  refine rn_bipush (v := 16) dX9_node_8 rfl ?_
  refine rn_icmp_ge (tgt := 17) dX9_node_10 rfl (fun q1 => absurd q1 (by exact Int32.not_le.mpr (by rw [show (16 : Int32) = nI 16 by decide]; exact nI_lt hn (by omega)))) (fun _ => ?_)
  refine rn_iconst (v := 1) dX9_node_13 rfl ?_
  refine rn_goto (tgt := 18) dX9_node_14 rfl ?_
  refine rn_callV dX9_node_18 cv_X9_29 (c_X9_mustBeOpen ho (by decide)) rfl h_SH rfl rfl (by decide) (by decide) rfl (Nat.le_of_ble_eq_true rfl) ?_
  refine rn_iload_n dX9_node_21 rfl ?_
  refine rn_iconst (v := 1) dX9_node_22 rfl ?_
  refine rn_iconst (v := 5) dX9_node_23 rfl ?_
  refine rn_callS dX9_node_24 cs_X9_33 c_X9_isIn rfl (by decide) (by decide) rfl (Nat.le_of_ble_eq_true rfl) ?_
  refine rn_topi (y := 0) (by decide) ?_
  refine rn_if_ne (tgt := 42) dX9_node_27 rfl (fun q2 => absurd q2 (by decide)) (fun _ => ?_)
  refine rn_iload_n dX9_node_30 rfl ?_
  refine rn_bipush (v := 7) dX9_node_31 rfl ?_
  refine rn_icmp_eq (tgt := 42) dX9_node_33 rfl (fun _ => ?_) (fun q3 => absurd (by decide) q3)
  refine rn_iconst (v := 1) dX9_node_42 rfl ?_
  refine rn_goto (tgt := 47) dX9_node_43 rfl ?_
  refine rn_istore dX9_node_47 (by decide) rfl ?_
  refine rn_iload_n dX9_node_49 rfl ?_
  refine rn_iconst (v := 3) dX9_node_50 rfl ?_
  refine rn_iconst (v := 5) dX9_node_51 rfl ?_
  refine rn_callS dX9_node_52 cs_X9_33 c_X9_isIn rfl (by decide) (by decide) rfl (Nat.le_of_ble_eq_true rfl) ?_
  refine rn_topi (y := 0) (by decide) ?_
  refine rn_istore dX9_node_55 (by decide) rfl ?_
  refine rn_iload_n dX9_node_57 rfl ?_
  refine rn_if_eq (tgt := 72) dX9_node_58 rfl (fun q4 => absurd q4 (by decide)) (fun _ => ?_)
  refine rn_iload_n dX9_node_61 rfl ?_
  refine rn_bipush (v := 6) dX9_node_62 rfl ?_
  refine rn_bipush (v := 8) dX9_node_64 rfl ?_
  refine rn_callS dX9_node_66 cs_X9_33 c_X9_isIn rfl (by decide) (by decide) rfl (Nat.le_of_ble_eq_true rfl) ?_
  refine rn_topi (y := 1) (by decide) ?_
  refine rn_if_eq (tgt := 76) dX9_node_69 rfl (fun q5 => absurd q5 (by decide)) (fun _ => ?_)
  refine rn_iconst (v := 1) dX9_node_72 rfl ?_
  refine rn_goto (tgt := 77) dX9_node_73 rfl ?_
  refine rn_istore dX9_node_77 (by decide) rfl ?_
  refine rn_iload dX9_node_79 rfl ?_
  refine rn_if_eq (tgt := 95) dX9_node_81 rfl (fun q6 => absurd q6 (by decide)) (fun _ => ?_)
  refine rn_aload_n dX9_node_84 rfl ?_
  refine rn_getfield dX9_node_85 fo_X9_12 h_SH rfl ?_
  refine rn_iload_n dX9_node_88 rfl ?_
  refine rn_callV dX9_node_89 cv_X9_85 c_X1_hasNode rfl h_chip rfl rfl (by decide) (by decide) rfl (Nat.le_of_ble_eq_true rfl) ?_
  refine rn_topi (has_n hN (by omega) ha) ?_
  refine rn_if_eq (tgt := 132) dX9_node_92 rfl (fun q7 => absurd q7 (by decide)) (fun _ => ?_)
  refine rn_iload dX9_node_95 rfl ?_
  refine rn_if_eq (tgt := 111) dX9_node_97 rfl (fun _ => ?_) (fun q8 => absurd (by decide) q8)
  refine rn_iload dX9_node_111 rfl ?_
  refine rn_if_eq (tgt := 128) dX9_node_113 rfl (fun q9 => absurd q9 (by decide)) (fun _ => ?_)
  refine rn_aload_n dX9_node_116 rfl ?_
  refine rn_getfield dX9_node_117 fo_X9_12 h_SH rfl ?_
  refine rn_iload dX9_node_120 rfl ?_
  refine rn_callV dX9_node_122 cv_X9_47 c_X1_hasClock rfl h_chip rfl rfl (by decide) (by decide) rfl (Nat.le_of_ble_eq_true rfl) ?_
  refine rn_topi (is_b (decide_eq_true ⟨Int32.not_lt.mp (nI_pos (by omega)), by rw [hK]; exact nI_lt hv (by omega)⟩)) ?_
  refine rn_if_eq (tgt := 132) dX9_node_125 rfl (fun q10 => absurd q10 (by decide)) (fun _ => ?_)
  refine rn_iconst (v := 1) dX9_node_128 rfl ?_
  refine rn_goto (tgt := 133) dX9_node_129 rfl ?_
  refine rn_callS dX9_node_133 cs_X9_51 (c_X9_mustExist (by decide)) rfl (by decide) (by decide) rfl (Nat.le_of_ble_eq_true rfl) ?_
  refine rn_iload_n dX9_node_136 rfl ?_
  refine rn_iconst (v := 0) dX9_node_137 rfl ?_
  refine rn_bipush (v := 8) dX9_node_138 rfl ?_
  refine rn_callS dX9_node_140 cs_X9_33 c_X9_isIn rfl (by decide) (by decide) rfl (Nat.le_of_ble_eq_true rfl) ?_
  refine rn_topi (y := 1) (by decide) ?_
  refine rn_if_eq (tgt := 194) dX9_node_143 rfl (fun q11 => absurd q11 (by decide)) (fun _ => ?_)
  refine rn_iload dX9_node_146 rfl ?_
  refine rn_if_eq (tgt := 168) dX9_node_148 rfl (fun q12 => absurd q12 (by decide)) (fun _ => ?_)
  refine rn_aload_n dX9_node_151 rfl ?_
  refine rn_getfield dX9_node_152 fo_X9_12 h_SH rfl ?_
  refine rn_getfield dX9_node_155 fo_X9_88 h_chip rfl ?_
  refine rn_iload_n dX9_node_158 rfl ?_
  refine rn_aaload dX9_node_159 h_nodes rfl (vp_in_nI (by omega) (by decide)) (refs_at rfl (by omega) (by decide)) ?_
  refine rn_getfield dX9_node_160 fo_X9_92 (h_node (by omega)) rfl ?_
  refine rn_bipush (v := 8) dX9_node_163 rfl ?_
  refine rn_icmp_eq (tgt := 194) dX9_node_165 rfl (fun q13 => absurd q13 (by exact h1)) (fun _ => ?_)
  refine rn_iload dX9_node_168 rfl ?_
  refine rn_if_eq (tgt := 190) dX9_node_170 rfl (fun _ => ?_) (fun q14 => absurd (by decide) q14)
  refine rn_iconst (v := 1) dX9_node_190 rfl ?_
  refine rn_goto (tgt := 195) dX9_node_191 rfl ?_
  refine rn_callS dX9_node_195 cs_X9_37 (c_X9_mustFit (by decide)) rfl (by decide) (by decide) rfl (Nat.le_of_ble_eq_true rfl) ?_
  refine rn_aload_n dX9_node_198 rfl ?_
  refine rn_getfield dX9_node_199 fo_X9_21 h_SH rfl ?_
  refine rn_callV dX9_node_202 cv_X9_40 c_X0_forget rfl h_an rfl rfl (by decide) (by decide) rfl (Nat.le_of_ble_eq_true rfl) ?_
  refine rn_aload_n dX9_node_205 rfl ?_
  refine rn_getfield dX9_node_206 fo_X9_12 h_SH rfl ?_
  refine rn_iload_n dX9_node_209 rfl ?_
  refine rn_iload dX9_node_210 rfl ?_
  refine rn_if_eq (tgt := 219) dX9_node_212 rfl (fun q15 => absurd q15 (by decide)) (fun _ => ?_)
  refine rn_iload_n dX9_node_215 rfl ?_
  refine rn_goto (tgt := 220) dX9_node_216 rfl ?_
  refine rn_iload dX9_node_220 rfl ?_
  refine rn_if_eq (tgt := 229) dX9_node_222 rfl (fun _ => ?_) (fun q16 => absurd (by decide) q16)
  refine rn_iconst (v := (-1)) dX9_node_229 rfl ?_
  refine rn_iload dX9_node_230 rfl ?_
  refine rn_if_eq (tgt := 240) dX9_node_232 rfl (fun q17 => absurd q17 (by decide)) (fun _ => ?_)
  refine rn_iload dX9_node_235 rfl ?_
  refine rn_goto (tgt := 241) dX9_node_237 rfl ?_
  refine rn_callV dX9_node_241 cv_X9_97 (c_X1_addNode_c hkF hn hkC hk4 hv) rfl h_chip rfl rfl (by decide) (by decide) rfl (Nat.le_of_ble_eq_true rfl) ?_
  exact rn_ret dX9_node_244 trivial rfl
set_option maxRecDepth 20000 in
theorem c_X9_node_8 {n nk v a : Nat} {b1 : Int32} (ho : sI S 0 2 = 0) (hN : sI S 1 6 = nI n) (hn : n < 16) (ha : a < n) (h1 : ¬ kd S a = 8) (hK : sI S 1 4 = nI nk) (hk4 : nk ≤ 4) (hv : v < nk) : Cn l D ad tc L xs mX9_node 2 46 [.ref 1, .int 8, .int (nI a), .int b1, .int (nI v)] (wd S E, sl) (some (.int (nI n))) (wd (sNodC (sForget S) n 8 (nI a) (-1) v) E, sl) := by
  refine cn_of (lv0 := [(0, .ref 1), (1, .int 8), (2, .int (nI a)), (3, .int b1), (4, .int (nI v))]) (by decide +kernel) ⟨_, rfl, rfl⟩ (fun _ => by simp [lg_sl, j_v, Value.category]) (fun _ => rfl) ?_
  have hkF : sI (sForget S) 1 6 = nI n := ((TS_forget S).1 1 6 (by decide)).trans hN
  have hkC : sI (sForget S) 1 4 = nI nk := ((TS_forget S).1 1 4 (by decide)).trans hK
  refine rn_aload_n dX9_node_0 rfl ?_
  refine rn_aload_n dX9_node_1 rfl ?_
  refine rn_getfield dX9_node_2 fo_X9_12 h_SH rfl ?_
  refine rn_getfield dX9_node_5 fo_X9_82 h_chip rfl ?_
  refine rn_topi (y := nI n) (by first | exact hN | exact hkF) ?_
  refine rn_bipush (v := 16) dX9_node_8 rfl ?_
  refine rn_icmp_ge (tgt := 17) dX9_node_10 rfl (fun q1 => absurd q1 (by exact Int32.not_le.mpr (by rw [show (16 : Int32) = nI 16 by decide]; exact nI_lt hn (by omega)))) (fun _ => ?_)
  refine rn_iconst (v := 1) dX9_node_13 rfl ?_
  refine rn_goto (tgt := 18) dX9_node_14 rfl ?_
  refine rn_callV dX9_node_18 cv_X9_29 (c_X9_mustBeOpen ho (by decide)) rfl h_SH rfl rfl (by decide) (by decide) rfl (Nat.le_of_ble_eq_true rfl) ?_
  refine rn_iload_n dX9_node_21 rfl ?_
  refine rn_iconst (v := 1) dX9_node_22 rfl ?_
  refine rn_iconst (v := 5) dX9_node_23 rfl ?_
  refine rn_callS dX9_node_24 cs_X9_33 c_X9_isIn rfl (by decide) (by decide) rfl (Nat.le_of_ble_eq_true rfl) ?_
  refine rn_topi (y := 0) (by decide) ?_
  refine rn_if_ne (tgt := 42) dX9_node_27 rfl (fun q2 => absurd q2 (by decide)) (fun _ => ?_)
  refine rn_iload_n dX9_node_30 rfl ?_
  refine rn_bipush (v := 7) dX9_node_31 rfl ?_
  refine rn_icmp_eq (tgt := 42) dX9_node_33 rfl (fun q3 => absurd q3 (by decide)) (fun _ => ?_)
  refine rn_iload_n dX9_node_36 rfl ?_
  refine rn_bipush (v := 8) dX9_node_37 rfl ?_
  refine rn_icmp_ne (tgt := 46) dX9_node_39 rfl (fun q4 => absurd q4 (by decide)) (fun _ => ?_)
  refine rn_iconst (v := 1) dX9_node_42 rfl ?_
  refine rn_goto (tgt := 47) dX9_node_43 rfl ?_
  refine rn_istore dX9_node_47 (by decide) rfl ?_
  refine rn_iload_n dX9_node_49 rfl ?_
  refine rn_iconst (v := 3) dX9_node_50 rfl ?_
  refine rn_iconst (v := 5) dX9_node_51 rfl ?_
  refine rn_callS dX9_node_52 cs_X9_33 c_X9_isIn rfl (by decide) (by decide) rfl (Nat.le_of_ble_eq_true rfl) ?_
  refine rn_topi (y := 0) (by decide) ?_
  refine rn_istore dX9_node_55 (by decide) rfl ?_
  refine rn_iload_n dX9_node_57 rfl ?_
  refine rn_if_eq (tgt := 72) dX9_node_58 rfl (fun q5 => absurd q5 (by decide)) (fun _ => ?_)
  refine rn_iload_n dX9_node_61 rfl ?_
  refine rn_bipush (v := 6) dX9_node_62 rfl ?_
  refine rn_bipush (v := 8) dX9_node_64 rfl ?_
  refine rn_callS dX9_node_66 cs_X9_33 c_X9_isIn rfl (by decide) (by decide) rfl (Nat.le_of_ble_eq_true rfl) ?_
  refine rn_topi (y := 1) (by decide) ?_
  refine rn_if_eq (tgt := 76) dX9_node_69 rfl (fun q6 => absurd q6 (by decide)) (fun _ => ?_)
  refine rn_iconst (v := 1) dX9_node_72 rfl ?_
  refine rn_goto (tgt := 77) dX9_node_73 rfl ?_
  refine rn_istore dX9_node_77 (by decide) rfl ?_
  refine rn_iload dX9_node_79 rfl ?_
  refine rn_if_eq (tgt := 95) dX9_node_81 rfl (fun q7 => absurd q7 (by decide)) (fun _ => ?_)
  refine rn_aload_n dX9_node_84 rfl ?_
  refine rn_getfield dX9_node_85 fo_X9_12 h_SH rfl ?_
  refine rn_iload_n dX9_node_88 rfl ?_
  refine rn_callV dX9_node_89 cv_X9_85 c_X1_hasNode rfl h_chip rfl rfl (by decide) (by decide) rfl (Nat.le_of_ble_eq_true rfl) ?_
  refine rn_topi (has_n hN (by omega) ha) ?_
  refine rn_if_eq (tgt := 132) dX9_node_92 rfl (fun q8 => absurd q8 (by decide)) (fun _ => ?_)
  refine rn_iload dX9_node_95 rfl ?_
  refine rn_if_eq (tgt := 111) dX9_node_97 rfl (fun _ => ?_) (fun q9 => absurd (by decide) q9)
  refine rn_iload dX9_node_111 rfl ?_
  refine rn_if_eq (tgt := 128) dX9_node_113 rfl (fun q10 => absurd q10 (by decide)) (fun _ => ?_)
  refine rn_aload_n dX9_node_116 rfl ?_
  refine rn_getfield dX9_node_117 fo_X9_12 h_SH rfl ?_
  refine rn_iload dX9_node_120 rfl ?_
  refine rn_callV dX9_node_122 cv_X9_47 c_X1_hasClock rfl h_chip rfl rfl (by decide) (by decide) rfl (Nat.le_of_ble_eq_true rfl) ?_
  refine rn_topi (is_b (decide_eq_true ⟨Int32.not_lt.mp (nI_pos (by omega)), by rw [hK]; exact nI_lt hv (by omega)⟩)) ?_
  refine rn_if_eq (tgt := 132) dX9_node_125 rfl (fun q11 => absurd q11 (by decide)) (fun _ => ?_)
  refine rn_iconst (v := 1) dX9_node_128 rfl ?_
  refine rn_goto (tgt := 133) dX9_node_129 rfl ?_
  refine rn_callS dX9_node_133 cs_X9_51 (c_X9_mustExist (by decide)) rfl (by decide) (by decide) rfl (Nat.le_of_ble_eq_true rfl) ?_
  refine rn_iload_n dX9_node_136 rfl ?_
  refine rn_iconst (v := 0) dX9_node_137 rfl ?_
  refine rn_bipush (v := 8) dX9_node_138 rfl ?_
  refine rn_callS dX9_node_140 cs_X9_33 c_X9_isIn rfl (by decide) (by decide) rfl (Nat.le_of_ble_eq_true rfl) ?_
  refine rn_topi (y := 1) (by decide) ?_
  refine rn_if_eq (tgt := 194) dX9_node_143 rfl (fun q12 => absurd q12 (by decide)) (fun _ => ?_)
  refine rn_iload dX9_node_146 rfl ?_
  refine rn_if_eq (tgt := 168) dX9_node_148 rfl (fun q13 => absurd q13 (by decide)) (fun _ => ?_)
  refine rn_aload_n dX9_node_151 rfl ?_
  refine rn_getfield dX9_node_152 fo_X9_12 h_SH rfl ?_
  refine rn_getfield dX9_node_155 fo_X9_88 h_chip rfl ?_
  refine rn_iload_n dX9_node_158 rfl ?_
  refine rn_aaload dX9_node_159 h_nodes rfl (vp_in_nI (by omega) (by decide)) (refs_at rfl (by omega) (by decide)) ?_
  refine rn_getfield dX9_node_160 fo_X9_92 (h_node (by omega)) rfl ?_
  refine rn_bipush (v := 8) dX9_node_163 rfl ?_
  refine rn_icmp_eq (tgt := 194) dX9_node_165 rfl (fun q14 => absurd q14 (by exact h1)) (fun _ => ?_)
  refine rn_iload dX9_node_168 rfl ?_
  refine rn_if_eq (tgt := 190) dX9_node_170 rfl (fun _ => ?_) (fun q15 => absurd (by decide) q15)
  refine rn_iconst (v := 1) dX9_node_190 rfl ?_
  refine rn_goto (tgt := 195) dX9_node_191 rfl ?_
  refine rn_callS dX9_node_195 cs_X9_37 (c_X9_mustFit (by decide)) rfl (by decide) (by decide) rfl (Nat.le_of_ble_eq_true rfl) ?_
  refine rn_aload_n dX9_node_198 rfl ?_
  refine rn_getfield dX9_node_199 fo_X9_21 h_SH rfl ?_
  refine rn_callV dX9_node_202 cv_X9_40 c_X0_forget rfl h_an rfl rfl (by decide) (by decide) rfl (Nat.le_of_ble_eq_true rfl) ?_
  refine rn_aload_n dX9_node_205 rfl ?_
  refine rn_getfield dX9_node_206 fo_X9_12 h_SH rfl ?_
  refine rn_iload_n dX9_node_209 rfl ?_
  refine rn_iload dX9_node_210 rfl ?_
  refine rn_if_eq (tgt := 219) dX9_node_212 rfl (fun q16 => absurd q16 (by decide)) (fun _ => ?_)
  refine rn_iload_n dX9_node_215 rfl ?_
  refine rn_goto (tgt := 220) dX9_node_216 rfl ?_
  refine rn_iload dX9_node_220 rfl ?_
  refine rn_if_eq (tgt := 229) dX9_node_222 rfl (fun _ => ?_) (fun q17 => absurd (by decide) q17)
  refine rn_iconst (v := (-1)) dX9_node_229 rfl ?_
  refine rn_iload dX9_node_230 rfl ?_
  refine rn_if_eq (tgt := 240) dX9_node_232 rfl (fun q18 => absurd q18 (by decide)) (fun _ => ?_)
  refine rn_iload dX9_node_235 rfl ?_
  refine rn_goto (tgt := 241) dX9_node_237 rfl ?_
  refine rn_callV dX9_node_241 cv_X9_97 (c_X1_addNode_c hkF hn hkC hk4 hv) rfl h_chip rfl rfl (by decide) (by decide) rfl (Nat.le_of_ble_eq_true rfl) ?_
  exact rn_ret dX9_node_244 trivial rfl
end T22
