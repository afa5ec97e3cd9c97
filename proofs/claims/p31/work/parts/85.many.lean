/-! The face: many -/
theorem mCp_s {S S' : jS} (h : S'.2.1 = S.2.1) : ∀ e, mCp S' e = mCp S e
  | 0 => rfl
  | e + 1 => by
    unfold mCp
    rw [mCp_s h e, show sA S' 40 = sA S 40 from congrFun h 40]
theorem mX0_s {S S' : jS} (h : TA S S') {R : Nat → Int32} {b : Bool} {s e : Nat} (hs : s < 16) (he : e < 16) : mX0 S' R b s e = mX0 S R b s e := by
  have v1 := h.2.2 s hs
  have v2 := h.2.2 e he
  unfold mX0 mCome mGrp mSf
  rw [enB_s h.1 he, fe1_s h.1 he, kd_s h.1 hs, kd_s h.1 he, show sV S' = sV S from h.1.2.2.2, show sI S' (sV S s + 6) 3 = sI S (sV S s + 6) 3 from h.1.1 _ _ (by omega) (by omega), show sI S' (sV S e + 6) 3 = sI S (sV S e + 6) 3 from h.1.1 _ _ (by omega) (by omega)]
theorem mX1_s {S S' : jS} (h : TA S S') {R : Nat → Int32} {b : Bool} {s : Nat} {c : Int32} (hs : s < 16) : ∀ e, e ≤ 16 → mX1 S' R b s c e = mX1 S R b s c e
  | 0, _ => rfl
  | e + 1, he => by
    unfold mX1
    rw [mX0_s h hs (by omega), mX1_s h hs e (by omega)]
theorem mX2_s {S S' : jS} (h : TA S S') {R : Nat → Int32} {b : Bool} {n : Nat} (hn : n ≤ 16) : ∀ s, s ≤ 16 → mX2 S' R b n s = mX2 S R b n s
  | 0, _ => rfl
  | s + 1, hs => by
    unfold mX2
    rw [mX2_s h hn s (by omega), mX1_s h (by omega) n hn]
def vMany (Q : QC) : Nat → Int32
  | 0 => sI Q.X 1 4
  | 1 => sI Q.X 1 5
  | 2 => sI Q.X 1 6
  | 3 => sI Q.X 1 7
  | 4 => mCp Q.X Q.n
  | 5 => vEN Q true Q.n
  | 6 => vEN Q false Q.n
  | 7 => mX2 Q.X (sA Q.X 39) false Q.n Q.n
  | 8 => mX2 Q.X (sA Q.X 39) true Q.n Q.n
  | 9 => if sI Q.X 0 2 = 0 then 0 else 1
  | _ => sI Q.X 0 3
section Q11
variable {l : Launch} {D : va_G} {ad : Nat → Nat} {tc : Nat → ClassId} {L : Nat} {xs : Nat → Int32} {S : jS} {E : List j_C} {sl x : Nat} {Q : QC}
set_option maxRecDepth 20000 in
theorem q_many_0 (h : Inq Q S): ∃ S', Inq Q S' ∧ Cn l D ad tc L xs mX9_many 6 155 [.ref 1, .int (nI 0)] (wd S E, sl) (some (.int (vMany Q 0))) (wd S' E, sl) := by
  refine ⟨S, h, ?_⟩
  refine cn_of (lv0 := [(0, .ref 1), (1, .int (nI 0))]) (by decide +kernel) ⟨_, rfl, rfl⟩ (fun _ => by simp [lg_sl, j_v, Value.category]) (fun _ => rfl) ?_
  refine rn_iload_n dX9_many_0 rfl ?_
  refine rn_iconst (v := 0) dX9_many_1 rfl ?_
  refine rn_bipush (v := 10) dX9_many_2 rfl ?_
  refine rn_callS dX9_many_4 cs_X9_33 c_X9_isIn rfl (by decide) (by decide) rfl (Nat.le_of_ble_eq_true rfl) ?_
  refine rn_topi (y := 1) (by decide) ?_
  refine rn_callS dX9_many_7 cs_X9_37 (c_X9_mustFit (by decide)) rfl (by decide) (by decide) rfl (Nat.le_of_ble_eq_true rfl) ?_
  refine rn_iload_n dX9_many_10 rfl ?_
  refine rn_tableIn (tgt := 64) dX9_many_11 (by decide) (by decide) rfl rfl ?_
  refine rn_aload_n dX9_many_64 rfl ?_
  refine rn_getfield dX9_many_65 fo_X9_12 h_SH rfl ?_
  refine rn_getfield dX9_many_68 fo_X9_25 h_chip rfl ?_
  refine rn_topi ((Inq_TS h).1 1 4 (by decide)) ?_
  exact rn_ret dX9_many_71 trivial rfl
set_option maxRecDepth 20000 in
theorem q_many_1 (h : Inq Q S): ∃ S', Inq Q S' ∧ Cn l D ad tc L xs mX9_many 6 155 [.ref 1, .int (nI 1)] (wd S E, sl) (some (.int (vMany Q 1))) (wd S' E, sl) := by
  refine ⟨S, h, ?_⟩
  refine cn_of (lv0 := [(0, .ref 1), (1, .int (nI 1))]) (by decide +kernel) ⟨_, rfl, rfl⟩ (fun _ => by simp [lg_sl, j_v, Value.category]) (fun _ => rfl) ?_
  refine rn_iload_n dX9_many_0 rfl ?_
  refine rn_iconst (v := 0) dX9_many_1 rfl ?_
  refine rn_bipush (v := 10) dX9_many_2 rfl ?_
  refine rn_callS dX9_many_4 cs_X9_33 c_X9_isIn rfl (by decide) (by decide) rfl (Nat.le_of_ble_eq_true rfl) ?_
  refine rn_topi (y := 1) (by decide) ?_
  refine rn_callS dX9_many_7 cs_X9_37 (c_X9_mustFit (by decide)) rfl (by decide) (by decide) rfl (Nat.le_of_ble_eq_true rfl) ?_
  refine rn_iload_n dX9_many_10 rfl ?_
  refine rn_tableIn (tgt := 72) dX9_many_11 (by decide) (by decide) rfl rfl ?_
  refine rn_aload_n dX9_many_72 rfl ?_
  refine rn_getfield dX9_many_73 fo_X9_12 h_SH rfl ?_
  refine rn_getfield dX9_many_76 fo_X9_75 h_chip rfl ?_
  refine rn_topi ((Inq_TS h).1 1 5 (by decide)) ?_
  exact rn_ret dX9_many_79 trivial rfl
set_option maxRecDepth 20000 in
theorem q_many_2 (h : Inq Q S): ∃ S', Inq Q S' ∧ Cn l D ad tc L xs mX9_many 6 155 [.ref 1, .int (nI 2)] (wd S E, sl) (some (.int (vMany Q 2))) (wd S' E, sl) := by
  refine ⟨S, h, ?_⟩
  refine cn_of (lv0 := [(0, .ref 1), (1, .int (nI 2))]) (by decide +kernel) ⟨_, rfl, rfl⟩ (fun _ => by simp [lg_sl, j_v, Value.category]) (fun _ => rfl) ?_
  refine rn_iload_n dX9_many_0 rfl ?_
  refine rn_iconst (v := 0) dX9_many_1 rfl ?_
  refine rn_bipush (v := 10) dX9_many_2 rfl ?_
  refine rn_callS dX9_many_4 cs_X9_33 c_X9_isIn rfl (by decide) (by decide) rfl (Nat.le_of_ble_eq_true rfl) ?_
  refine rn_topi (y := 1) (by decide) ?_
  refine rn_callS dX9_many_7 cs_X9_37 (c_X9_mustFit (by decide)) rfl (by decide) (by decide) rfl (Nat.le_of_ble_eq_true rfl) ?_
  refine rn_iload_n dX9_many_10 rfl ?_
  refine rn_tableIn (tgt := 80) dX9_many_11 (by decide) (by decide) rfl rfl ?_
  refine rn_aload_n dX9_many_80 rfl ?_
  refine rn_getfield dX9_many_81 fo_X9_12 h_SH rfl ?_
  refine rn_getfield dX9_many_84 fo_X9_82 h_chip rfl ?_
  refine rn_topi ((Inq_TS h).1 1 6 (by decide)) ?_
  exact rn_ret dX9_many_87 trivial rfl
set_option maxRecDepth 20000 in
theorem q_many_3 (h : Inq Q S): ∃ S', Inq Q S' ∧ Cn l D ad tc L xs mX9_many 6 155 [.ref 1, .int (nI 3)] (wd S E, sl) (some (.int (vMany Q 3))) (wd S' E, sl) := by
  refine ⟨S, h, ?_⟩
  refine cn_of (lv0 := [(0, .ref 1), (1, .int (nI 3))]) (by decide +kernel) ⟨_, rfl, rfl⟩ (fun _ => by simp [lg_sl, j_v, Value.category]) (fun _ => rfl) ?_
  refine rn_iload_n dX9_many_0 rfl ?_
  refine rn_iconst (v := 0) dX9_many_1 rfl ?_
  refine rn_bipush (v := 10) dX9_many_2 rfl ?_
  refine rn_callS dX9_many_4 cs_X9_33 c_X9_isIn rfl (by decide) (by decide) rfl (Nat.le_of_ble_eq_true rfl) ?_
  refine rn_topi (y := 1) (by decide) ?_
  refine rn_callS dX9_many_7 cs_X9_37 (c_X9_mustFit (by decide)) rfl (by decide) (by decide) rfl (Nat.le_of_ble_eq_true rfl) ?_
  refine rn_iload_n dX9_many_10 rfl ?_
  refine rn_tableIn (tgt := 88) dX9_many_11 (by decide) (by decide) rfl rfl ?_
  refine rn_aload_n dX9_many_88 rfl ?_
  refine rn_getfield dX9_many_89 fo_X9_12 h_SH rfl ?_
  refine rn_getfield dX9_many_92 fo_X9_128 h_chip rfl ?_
  refine rn_topi ((Inq_TS h).1 1 7 (by decide)) ?_
  exact rn_ret dX9_many_95 trivial rfl
set_option maxRecDepth 20000 in
theorem q_many_4 (h : Inq Q S): ∃ S', Inq Q S' ∧ Cn l D ad tc L xs mX9_many 6 155 [.ref 1, .int (nI 4)] (wd S E, sl) (some (.int (vMany Q 4))) (wd S' E, sl) := by
  refine ⟨S, h, ?_⟩
  refine cn_of (lv0 := [(0, .ref 1), (1, .int (nI 4))]) (by decide +kernel) ⟨_, rfl, rfl⟩ (fun _ => by simp [lg_sl, j_v, Value.category]) (fun _ => rfl) ?_
  refine rn_iload_n dX9_many_0 rfl ?_
  refine rn_iconst (v := 0) dX9_many_1 rfl ?_
  refine rn_bipush (v := 10) dX9_many_2 rfl ?_
  refine rn_callS dX9_many_4 cs_X9_33 c_X9_isIn rfl (by decide) (by decide) rfl (Nat.le_of_ble_eq_true rfl) ?_
  refine rn_topi (y := 1) (by decide) ?_
  refine rn_callS dX9_many_7 cs_X9_37 (c_X9_mustFit (by decide)) rfl (by decide) (by decide) rfl (Nat.le_of_ble_eq_true rfl) ?_
  refine rn_iload_n dX9_many_10 rfl ?_
  refine rn_tableIn (tgt := 96) dX9_many_11 (by decide) (by decide) rfl rfl ?_
  refine rn_aload_n dX9_many_96 rfl ?_
  refine rn_getfield dX9_many_97 fo_X9_21 h_SH rfl ?_
  refine rn_callV dX9_many_100 cv_X9_192 (q_paths h) rfl h_an rfl rfl (by decide) (by decide) rfl (Nat.le_of_ble_eq_true rfl) ?_
  refine rn_callV dX9_many_103 cv_X9_204 (c_X6_checkedPairs h.1.1) rfl h_paths rfl rfl (by decide) (by decide) rfl (Nat.le_of_ble_eq_true rfl) ?_
  rw [mCp_s h.2.2.2.1]
  exact rn_ret dX9_many_106 trivial rfl
set_option maxRecDepth 20000 in
theorem q_many_5 (h : Inq Q S): ∃ S', Inq Q S' ∧ Cn l D ad tc L xs mX9_many 6 155 [.ref 1, .int (nI 5)] (wd S E, sl) (some (.int (vMany Q 5))) (wd S' E, sl) := by
  obtain ⟨S', h1, k1⟩ := q_endsInNeed (l := l) (D := D) (ad := ad) (tc := tc) (L := L) (xs := xs) (E := E) (sl := sl) (b := true) h
  refine ⟨S', h1, ?_⟩
  refine cn_of (lv0 := [(0, .ref 1), (1, .int (nI 5))]) (by decide +kernel) ⟨_, rfl, rfl⟩ (fun _ => by simp [lg_sl, j_v, Value.category]) (fun _ => rfl) ?_
  refine rn_iload_n dX9_many_0 rfl ?_
  refine rn_iconst (v := 0) dX9_many_1 rfl ?_
  refine rn_bipush (v := 10) dX9_many_2 rfl ?_
  refine rn_callS dX9_many_4 cs_X9_33 c_X9_isIn rfl (by decide) (by decide) rfl (Nat.le_of_ble_eq_true rfl) ?_
  refine rn_topi (y := 1) (by decide) ?_
  refine rn_callS dX9_many_7 cs_X9_37 (c_X9_mustFit (by decide)) rfl (by decide) (by decide) rfl (Nat.le_of_ble_eq_true rfl) ?_
  refine rn_iload_n dX9_many_10 rfl ?_
  refine rn_tableIn (tgt := 107) dX9_many_11 (by decide) (by decide) rfl rfl ?_
  refine rn_aload_n dX9_many_107 rfl ?_
  refine rn_getfield dX9_many_108 fo_X9_21 h_SH rfl ?_
  refine rn_iconst (v := 1) dX9_many_111 rfl ?_
  refine rn_topi (y := bI true) rfl ?_
  refine rn_callV dX9_many_112 cv_X9_208 k1 rfl h_an rfl rfl (by decide) (by decide) rfl (Nat.le_of_ble_eq_true rfl) ?_
  exact rn_ret dX9_many_115 trivial rfl
set_option maxRecDepth 20000 in
theorem q_many_6 (h : Inq Q S): ∃ S', Inq Q S' ∧ Cn l D ad tc L xs mX9_many 6 155 [.ref 1, .int (nI 6)] (wd S E, sl) (some (.int (vMany Q 6))) (wd S' E, sl) := by
  obtain ⟨S', h1, k1⟩ := q_endsInNeed (l := l) (D := D) (ad := ad) (tc := tc) (L := L) (xs := xs) (E := E) (sl := sl) (b := false) h
  refine ⟨S', h1, ?_⟩
  refine cn_of (lv0 := [(0, .ref 1), (1, .int (nI 6))]) (by decide +kernel) ⟨_, rfl, rfl⟩ (fun _ => by simp [lg_sl, j_v, Value.category]) (fun _ => rfl) ?_
  refine rn_iload_n dX9_many_0 rfl ?_
  refine rn_iconst (v := 0) dX9_many_1 rfl ?_
  refine rn_bipush (v := 10) dX9_many_2 rfl ?_
  refine rn_callS dX9_many_4 cs_X9_33 c_X9_isIn rfl (by decide) (by decide) rfl (Nat.le_of_ble_eq_true rfl) ?_
  refine rn_topi (y := 1) (by decide) ?_
  refine rn_callS dX9_many_7 cs_X9_37 (c_X9_mustFit (by decide)) rfl (by decide) (by decide) rfl (Nat.le_of_ble_eq_true rfl) ?_
  refine rn_iload_n dX9_many_10 rfl ?_
  refine rn_tableIn (tgt := 116) dX9_many_11 (by decide) (by decide) rfl rfl ?_
  refine rn_aload_n dX9_many_116 rfl ?_
  refine rn_getfield dX9_many_117 fo_X9_21 h_SH rfl ?_
  refine rn_iconst (v := 0) dX9_many_120 rfl ?_
  refine rn_topi (y := bI false) rfl ?_
  refine rn_callV dX9_many_121 cv_X9_208 k1 rfl h_an rfl rfl (by decide) (by decide) rfl (Nat.le_of_ble_eq_true rfl) ?_
  exact rn_ret dX9_many_124 trivial rfl
set_option maxRecDepth 20000 in
theorem q_many_7 (h : Inq Q S): ∃ S', Inq Q S' ∧ Cn l D ad tc L xs mX9_many 6 155 [.ref 1, .int (nI 7)] (wd S E, sl) (some (.int (vMany Q 7))) (wd S' E, sl) := by
  refine ⟨S, h, ?_⟩
  refine cn_of (lv0 := [(0, .ref 1), (1, .int (nI 7))]) (by decide +kernel) ⟨_, rfl, rfl⟩ (fun _ => by simp [lg_sl, j_v, Value.category]) (fun _ => rfl) ?_
  refine rn_iload_n dX9_many_0 rfl ?_
  refine rn_iconst (v := 0) dX9_many_1 rfl ?_
  refine rn_bipush (v := 10) dX9_many_2 rfl ?_
  refine rn_callS dX9_many_4 cs_X9_33 c_X9_isIn rfl (by decide) (by decide) rfl (Nat.le_of_ble_eq_true rfl) ?_
  refine rn_topi (y := 1) (by decide) ?_
  refine rn_callS dX9_many_7 cs_X9_37 (c_X9_mustFit (by decide)) rfl (by decide) (by decide) rfl (Nat.le_of_ble_eq_true rfl) ?_
  refine rn_iload_n dX9_many_10 rfl ?_
  refine rn_tableIn (tgt := 125) dX9_many_11 (by decide) (by decide) rfl rfl ?_
  refine rn_aload_n dX9_many_125 rfl ?_
  refine rn_getfield dX9_many_126 fo_X9_21 h_SH rfl ?_
  refine rn_callV dX9_many_129 cv_X9_192 (q_paths h) rfl h_an rfl rfl (by decide) (by decide) rfl (Nat.le_of_ble_eq_true rfl) ?_
  refine rn_iconst (v := 0) dX9_many_132 rfl ?_
  refine rn_topi (y := bI false) rfl ?_
  refine rn_callV dX9_many_133 cv_X9_212 (c_X6_crossings h.1.1) rfl h_paths rfl rfl (by decide) (by decide) rfl (Nat.le_of_ble_eq_true rfl) ?_
  rw [mX2_s (Inq_TA h) h.1.1.1.2 Q.n h.1.1.1.2, show sA S 39 = sA Q.X 39 from congrFun h.2.2.2.1 39]
  exact rn_ret dX9_many_136 trivial rfl
set_option maxRecDepth 20000 in
theorem q_many_8 (h : Inq Q S): ∃ S', Inq Q S' ∧ Cn l D ad tc L xs mX9_many 6 155 [.ref 1, .int (nI 8)] (wd S E, sl) (some (.int (vMany Q 8))) (wd S' E, sl) := by
  refine ⟨S, h, ?_⟩
  refine cn_of (lv0 := [(0, .ref 1), (1, .int (nI 8))]) (by decide +kernel) ⟨_, rfl, rfl⟩ (fun _ => by simp [lg_sl, j_v, Value.category]) (fun _ => rfl) ?_
  refine rn_iload_n dX9_many_0 rfl ?_
  refine rn_iconst (v := 0) dX9_many_1 rfl ?_
  refine rn_bipush (v := 10) dX9_many_2 rfl ?_
  refine rn_callS dX9_many_4 cs_X9_33 c_X9_isIn rfl (by decide) (by decide) rfl (Nat.le_of_ble_eq_true rfl) ?_
  refine rn_topi (y := 1) (by decide) ?_
  refine rn_callS dX9_many_7 cs_X9_37 (c_X9_mustFit (by decide)) rfl (by decide) (by decide) rfl (Nat.le_of_ble_eq_true rfl) ?_
  refine rn_iload_n dX9_many_10 rfl ?_
  refine rn_tableIn (tgt := 137) dX9_many_11 (by decide) (by decide) rfl rfl ?_
  refine rn_aload_n dX9_many_137 rfl ?_
  refine rn_getfield dX9_many_138 fo_X9_21 h_SH rfl ?_
  refine rn_callV dX9_many_141 cv_X9_192 (q_paths h) rfl h_an rfl rfl (by decide) (by decide) rfl (Nat.le_of_ble_eq_true rfl) ?_
  refine rn_iconst (v := 1) dX9_many_144 rfl ?_
  refine rn_topi (y := bI true) rfl ?_
  refine rn_callV dX9_many_145 cv_X9_212 (c_X6_crossings h.1.1) rfl h_paths rfl rfl (by decide) (by decide) rfl (Nat.le_of_ble_eq_true rfl) ?_
  rw [mX2_s (Inq_TA h) h.1.1.1.2 Q.n h.1.1.1.2, show sA S 39 = sA Q.X 39 from congrFun h.2.2.2.1 39]
  exact rn_ret dX9_many_148 trivial rfl
set_option maxRecDepth 20000 in
theorem q_many_9 (h : Inq Q S) (h9 : sI Q.X 0 2 = 0): ∃ S', Inq Q S' ∧ Cn l D ad tc L xs mX9_many 6 155 [.ref 1, .int (nI 9)] (wd S E, sl) (some (.int (vMany Q 9))) (wd S' E, sl) := by
  have hsg : sI S 0 2 = 0 := ((Inq_TS h).1 0 2 (by decide)).trans h9
  refine ⟨S, h, ?_⟩
  refine cn_of (lv0 := [(0, .ref 1), (1, .int (nI 9))]) (by decide +kernel) ⟨_, rfl, rfl⟩ (fun _ => by simp [lg_sl, j_v, Value.category]) (fun _ => rfl) ?_
  refine rn_iload_n dX9_many_0 rfl ?_
  refine rn_iconst (v := 0) dX9_many_1 rfl ?_
  refine rn_bipush (v := 10) dX9_many_2 rfl ?_
  refine rn_callS dX9_many_4 cs_X9_33 c_X9_isIn rfl (by decide) (by decide) rfl (Nat.le_of_ble_eq_true rfl) ?_
  refine rn_topi (y := 1) (by decide) ?_
  refine rn_callS dX9_many_7 cs_X9_37 (c_X9_mustFit (by decide)) rfl (by decide) (by decide) rfl (Nat.le_of_ble_eq_true rfl) ?_
  refine rn_iload_n dX9_many_10 rfl ?_
  refine rn_tableIn (tgt := 149) dX9_many_11 (by decide) (by decide) rfl rfl ?_
  refine rn_aload_n dX9_many_149 rfl ?_
  refine rn_getfield dX9_many_150 fo_X9_142 h_SH rfl ?_
  refine rn_topi hsg ?_
  refine rn_if_eq (tgt := 160) dX9_many_153 rfl (fun _ => ?_) (fun q1 => absurd (by rfl) q1)
  refine rn_iconst (v := 0) dX9_many_160 rfl ?_
  exact rn_ret dX9_many_161 trivial (by rw [show vMany Q 9 = 0 from if_pos h9]; rfl)
set_option maxRecDepth 20000 in
theorem q_many_10 (h : Inq Q S): ∃ S', Inq Q S' ∧ Cn l D ad tc L xs mX9_many 6 155 [.ref 1, .int (nI 10)] (wd S E, sl) (some (.int (vMany Q 10))) (wd S' E, sl) := by
  refine ⟨S, h, ?_⟩
  refine cn_of (lv0 := [(0, .ref 1), (1, .int (nI 10))]) (by decide +kernel) ⟨_, rfl, rfl⟩ (fun _ => by simp [lg_sl, j_v, Value.category]) (fun _ => rfl) ?_
  refine rn_iload_n dX9_many_0 rfl ?_
  refine rn_iconst (v := 0) dX9_many_1 rfl ?_
  refine rn_bipush (v := 10) dX9_many_2 rfl ?_
  refine rn_callS dX9_many_4 cs_X9_33 c_X9_isIn rfl (by decide) (by decide) rfl (Nat.le_of_ble_eq_true rfl) ?_
  refine rn_topi (y := 1) (by decide) ?_
  refine rn_callS dX9_many_7 cs_X9_37 (c_X9_mustFit (by decide)) rfl (by decide) (by decide) rfl (Nat.le_of_ble_eq_true rfl) ?_
  refine rn_iload_n dX9_many_10 rfl ?_
  refine rn_tableOut (tgt := 162) dX9_many_11 (by decide) rfl ?_
  refine rn_aload_n dX9_many_162 rfl ?_
  refine rn_getfield dX9_many_163 fo_X9_146 h_SH rfl ?_
  refine rn_topi ((Inq_TS h).1 0 3 (by decide)) ?_
  exact rn_ret dX9_many_166 trivial rfl
theorem q_many {k : Nat} (h : Inq Q S) (h9 : sI Q.X 0 2 = 0) (hk : k ≤ 10) : ∃ S', Inq Q S' ∧ Cn l D ad tc L xs mX9_many 6 155 [.ref 1, .int (nI k)] (wd S E, sl) (some (.int (vMany Q k))) (wd S' E, sl) := by
  rcases (show k = 0 ∨ k = 1 ∨ k = 2 ∨ k = 3 ∨ k = 4 ∨ k = 5 ∨ k = 6 ∨ k = 7 ∨ k = 8 ∨ k = 9 ∨ k = 10 by omega) with rfl | rfl | rfl | rfl | rfl | rfl | rfl | rfl | rfl | rfl | rfl
  · exact q_many_0 h
  · exact q_many_1 h
  · exact q_many_2 h
  · exact q_many_3 h
  · exact q_many_4 h
  · exact q_many_5 h
  · exact q_many_6 h
  · exact q_many_7 h
  · exact q_many_8 h
  · exact q_many_9 h h9
  · exact q_many_10 h
end Q11
