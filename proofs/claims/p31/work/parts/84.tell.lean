/-! Tables of ways, and what a node or a clock tells -/
section J9
variable {l : Launch} {D : va_G} {ad : Nat → Nat} {tc : Nat → ClassId} {L : Nat} {xs : Nat → Int32} {M : j_M} {d lo pc : Nat} {lv : j_L} {st : List Value} {h h' : j_H} {r : Option Value}
theorem rn_tableIn {dflt a b : Int} {offs : Array Int} {len : Nat} {x : Int32} {off : Int} {tgt : Nat} (hd : decode M.2.1 pc = .ok (.tableswitch dflt a b offs, len)) (h1 : ¬ x.toInt < a) (h2 : ¬ b < x.toInt) (ho : offs[(x.toInt - a).toNat]? = some off) (ht : (pc : Int) + off = (tgt : Int)) (k : Rn l D ad tc L xs M d lo tgt lv st h r h') : Rn l D ad tc L xs M d lo pc lv (.int x :: st) h r h' :=
  rn_pure (fun p e R s m args below meth c H locs cells slots ls Q hF hd1 hd2 hl hP hS k => lv_tableIn hF.1 hF.2.1 hd h1 h2 ho ht k) k
theorem rn_tableOut {dflt a b : Int} {offs : Array Int} {len : Nat} {x : Int32} {tgt : Nat} (hd : decode M.2.1 pc = .ok (.tableswitch dflt a b offs, len)) (h0 : x.toInt < a ∨ b < x.toInt) (ht : (pc : Int) + dflt = (tgt : Int)) (k : Rn l D ad tc L xs M d lo tgt lv st h r h') : Rn l D ad tc L xs M d lo pc lv (.int x :: st) h r h' :=
  rn_pure (fun p e R s m args below meth c H locs cells slots ls Q hF hd1 hd2 hl hP hS k => lv_tableOut hF.1 hF.2.1 hd h0 ht k) k
end J9
def nTell (S : jS) (i : Nat) : Nat → Int32
  | 0 => sI S (i + 13) 0
  | 1 => sI S (i + 13) 1
  | 2 => sI S (i + 13) 2
  | 3 => sI S (i + 13) 3
  | 4 => sI S (i + 13) 5
  | _ => sI S (i + 13) 7
def cTell (S : jS) (v : Nat) : Nat → Int32
  | 0 => sI S (v + 6) 0
  | 1 => sI S (v + 6) 1
  | 2 => sI S (v + 6) 2
  | 3 => sI S (v + 6) 3
  | _ => sI S (v + 6) 4
section Q10
variable {l : Launch} {D : va_G} {ad : Nat → Nat} {tc : Nat → ClassId} {L : Nat} {xs : Nat → Int32} {S : jS} {E : List j_C} {sl x : Nat} {Q : QC}
set_option maxRecDepth 20000 in
theorem c_X5_tell_0 {i : Nat} (hi : i < 16) : Cn l D ad tc L xs mX5_tell 0 0 [.ref (i + 14), .int (nI 0)] (wd S E, sl) (some (.int (nTell S i 0))) (wd S E, sl) := by
  refine cn_of (lv0 := [(0, .ref (i + 14)), (1, .int (nI 0))]) (by decide +kernel) ⟨_, rfl, rfl⟩ (fun _ => by simp [lg_sl, j_v, Value.category]) (fun _ => rfl) ?_
  refine rn_iload_n dX5_tell_0 rfl ?_
  refine rn_tableIn (tgt := 36) dX5_tell_1 (by decide) (by decide) rfl rfl ?_
  refine rn_aload_n dX5_tell_36 rfl ?_
  refine rn_getfield dX5_tell_37 fo_X5_32 (h_node (by omega)) rfl ?_
  exact rn_ret dX5_tell_40 trivial rfl
set_option maxRecDepth 20000 in
theorem c_X5_tell_1 {i : Nat} (hi : i < 16) : Cn l D ad tc L xs mX5_tell 0 0 [.ref (i + 14), .int (nI 1)] (wd S E, sl) (some (.int (nTell S i 1))) (wd S E, sl) := by
  refine cn_of (lv0 := [(0, .ref (i + 14)), (1, .int (nI 1))]) (by decide +kernel) ⟨_, rfl, rfl⟩ (fun _ => by simp [lg_sl, j_v, Value.category]) (fun _ => rfl) ?_
  refine rn_iload_n dX5_tell_0 rfl ?_
  refine rn_tableIn (tgt := 41) dX5_tell_1 (by decide) (by decide) rfl rfl ?_
  refine rn_aload_n dX5_tell_41 rfl ?_
  refine rn_getfield dX5_tell_42 fo_X5_9 (h_node (by omega)) rfl ?_
  exact rn_ret dX5_tell_45 trivial rfl
set_option maxRecDepth 20000 in
theorem c_X5_tell_2 {i : Nat} (hi : i < 16) : Cn l D ad tc L xs mX5_tell 0 0 [.ref (i + 14), .int (nI 2)] (wd S E, sl) (some (.int (nTell S i 2))) (wd S E, sl) := by
  refine cn_of (lv0 := [(0, .ref (i + 14)), (1, .int (nI 2))]) (by decide +kernel) ⟨_, rfl, rfl⟩ (fun _ => by simp [lg_sl, j_v, Value.category]) (fun _ => rfl) ?_
  refine rn_iload_n dX5_tell_0 rfl ?_
  refine rn_tableIn (tgt := 46) dX5_tell_1 (by decide) (by decide) rfl rfl ?_
  refine rn_aload_n dX5_tell_46 rfl ?_
  refine rn_getfield dX5_tell_47 fo_X5_15 (h_node (by omega)) rfl ?_
  exact rn_ret dX5_tell_50 trivial rfl
set_option maxRecDepth 20000 in
theorem c_X5_tell_3 {i : Nat} (hi : i < 16) : Cn l D ad tc L xs mX5_tell 0 0 [.ref (i + 14), .int (nI 3)] (wd S E, sl) (some (.int (nTell S i 3))) (wd S E, sl) := by
  refine cn_of (lv0 := [(0, .ref (i + 14)), (1, .int (nI 3))]) (by decide +kernel) ⟨_, rfl, rfl⟩ (fun _ => by simp [lg_sl, j_v, Value.category]) (fun _ => rfl) ?_
  refine rn_iload_n dX5_tell_0 rfl ?_
  refine rn_tableIn (tgt := 51) dX5_tell_1 (by decide) (by decide) rfl rfl ?_
  refine rn_aload_n dX5_tell_51 rfl ?_
  refine rn_getfield dX5_tell_52 fo_X5_18 (h_node (by omega)) rfl ?_
  exact rn_ret dX5_tell_55 trivial rfl
set_option maxRecDepth 20000 in
theorem c_X5_tell_4 {i : Nat} (hi : i < 16) : Cn l D ad tc L xs mX5_tell 0 0 [.ref (i + 14), .int (nI 4)] (wd S E, sl) (some (.int (nTell S i 4))) (wd S E, sl) := by
  refine cn_of (lv0 := [(0, .ref (i + 14)), (1, .int (nI 4))]) (by decide +kernel) ⟨_, rfl, rfl⟩ (fun _ => by simp [lg_sl, j_v, Value.category]) (fun _ => rfl) ?_
  refine rn_iload_n dX5_tell_0 rfl ?_
  refine rn_tableIn (tgt := 56) dX5_tell_1 (by decide) (by decide) rfl rfl ?_
  refine rn_aload_n dX5_tell_56 rfl ?_
  refine rn_getfield dX5_tell_57 fo_X5_21 (h_node (by omega)) rfl ?_
  exact rn_ret dX5_tell_60 trivial rfl
set_option maxRecDepth 20000 in
theorem c_X5_tell_5 {i : Nat} (hi : i < 16) : Cn l D ad tc L xs mX5_tell 0 0 [.ref (i + 14), .int (nI 5)] (wd S E, sl) (some (.int (nTell S i 5))) (wd S E, sl) := by
  refine cn_of (lv0 := [(0, .ref (i + 14)), (1, .int (nI 5))]) (by decide +kernel) ⟨_, rfl, rfl⟩ (fun _ => by simp [lg_sl, j_v, Value.category]) (fun _ => rfl) ?_
  refine rn_iload_n dX5_tell_0 rfl ?_
  refine rn_tableOut (tgt := 61) dX5_tell_1 (by decide) rfl ?_
  refine rn_aload_n dX5_tell_61 rfl ?_
  refine rn_getfield dX5_tell_62 fo_X5_40 (h_node (by omega)) rfl ?_
  exact rn_ret dX5_tell_65 trivial rfl
set_option maxRecDepth 20000 in
theorem c_X5_tell_6 {i : Nat} (hi : i < 16) : Cn l D ad tc L xs mX5_tell 0 0 [.ref (i + 14), .int (nI 6)] (wd S E, sl) (some (.int (nTell S i 6))) (wd S E, sl) := by
  refine cn_of (lv0 := [(0, .ref (i + 14)), (1, .int (nI 6))]) (by decide +kernel) ⟨_, rfl, rfl⟩ (fun _ => by simp [lg_sl, j_v, Value.category]) (fun _ => rfl) ?_
  refine rn_iload_n dX5_tell_0 rfl ?_
  refine rn_tableOut (tgt := 61) dX5_tell_1 (by decide) rfl ?_
  refine rn_aload_n dX5_tell_61 rfl ?_
  refine rn_getfield dX5_tell_62 fo_X5_40 (h_node (by omega)) rfl ?_
  exact rn_ret dX5_tell_65 trivial rfl
theorem c_X5_tell {i k : Nat} (hi : i < 16) (hk : k ≤ 6) : Cn l D ad tc L xs mX5_tell 0 0 [.ref (i + 14), .int (nI k)] (wd S E, sl) (some (.int (nTell S i k))) (wd S E, sl) := by
  rcases (show k = 0 ∨ k = 1 ∨ k = 2 ∨ k = 3 ∨ k = 4 ∨ k = 5 ∨ k = 6 by omega) with rfl | rfl | rfl | rfl | rfl | rfl | rfl
  · exact c_X5_tell_0 hi
  · exact c_X5_tell_1 hi
  · exact c_X5_tell_2 hi
  · exact c_X5_tell_3 hi
  · exact c_X5_tell_4 hi
  · exact c_X5_tell_5 hi
  · exact c_X5_tell_6 hi
set_option maxRecDepth 20000 in
theorem c_X2_tell_0 {v : Nat} (hv : v < 4) : Cn l D ad tc L xs mX2_tell 0 0 [.ref (v + 7), .int (nI 0)] (wd S E, sl) (some (.int (cTell S v 0))) (wd S E, sl) := by
  refine cn_of (lv0 := [(0, .ref (v + 7)), (1, .int (nI 0))]) (by decide +kernel) ⟨_, rfl, rfl⟩ (fun _ => by simp [lg_sl, j_v, Value.category]) (fun _ => rfl) ?_
  refine rn_iload_n dX2_tell_0 rfl ?_
  refine rn_tableIn (tgt := 32) dX2_tell_1 (by decide) (by decide) rfl rfl ?_
  refine rn_aload_n dX2_tell_32 rfl ?_
  refine rn_getfield dX2_tell_33 fo_X2_7 (h_clock (by omega)) rfl ?_
  exact rn_ret dX2_tell_36 trivial rfl
set_option maxRecDepth 20000 in
theorem c_X2_tell_1 {v : Nat} (hv : v < 4) : Cn l D ad tc L xs mX2_tell 0 0 [.ref (v + 7), .int (nI 1)] (wd S E, sl) (some (.int (cTell S v 1))) (wd S E, sl) := by
  refine cn_of (lv0 := [(0, .ref (v + 7)), (1, .int (nI 1))]) (by decide +kernel) ⟨_, rfl, rfl⟩ (fun _ => by simp [lg_sl, j_v, Value.category]) (fun _ => rfl) ?_
  refine rn_iload_n dX2_tell_0 rfl ?_
  refine rn_tableIn (tgt := 37) dX2_tell_1 (by decide) (by decide) rfl rfl ?_
  refine rn_aload_n dX2_tell_37 rfl ?_
  refine rn_getfield dX2_tell_38 fo_X2_13 (h_clock (by omega)) rfl ?_
  exact rn_ret dX2_tell_41 trivial rfl
set_option maxRecDepth 20000 in
theorem c_X2_tell_2 {v : Nat} (hv : v < 4) : Cn l D ad tc L xs mX2_tell 0 0 [.ref (v + 7), .int (nI 2)] (wd S E, sl) (some (.int (cTell S v 2))) (wd S E, sl) := by
  refine cn_of (lv0 := [(0, .ref (v + 7)), (1, .int (nI 2))]) (by decide +kernel) ⟨_, rfl, rfl⟩ (fun _ => by simp [lg_sl, j_v, Value.category]) (fun _ => rfl) ?_
  refine rn_iload_n dX2_tell_0 rfl ?_
  refine rn_tableIn (tgt := 42) dX2_tell_1 (by decide) (by decide) rfl rfl ?_
  refine rn_aload_n dX2_tell_42 rfl ?_
  refine rn_getfield dX2_tell_43 fo_X2_16 (h_clock (by omega)) rfl ?_
  exact rn_ret dX2_tell_46 trivial rfl
set_option maxRecDepth 20000 in
theorem c_X2_tell_3 {v : Nat} (hv : v < 4) : Cn l D ad tc L xs mX2_tell 0 0 [.ref (v + 7), .int (nI 3)] (wd S E, sl) (some (.int (cTell S v 3))) (wd S E, sl) := by
  refine cn_of (lv0 := [(0, .ref (v + 7)), (1, .int (nI 3))]) (by decide +kernel) ⟨_, rfl, rfl⟩ (fun _ => by simp [lg_sl, j_v, Value.category]) (fun _ => rfl) ?_
  refine rn_iload_n dX2_tell_0 rfl ?_
  refine rn_tableIn (tgt := 47) dX2_tell_1 (by decide) (by decide) rfl rfl ?_
  refine rn_aload_n dX2_tell_47 rfl ?_
  refine rn_getfield dX2_tell_48 fo_X2_19 (h_clock (by omega)) rfl ?_
  exact rn_ret dX2_tell_51 trivial rfl
set_option maxRecDepth 20000 in
theorem c_X2_tell_4 {v : Nat} (hv : v < 4) : Cn l D ad tc L xs mX2_tell 0 0 [.ref (v + 7), .int (nI 4)] (wd S E, sl) (some (.int (cTell S v 4))) (wd S E, sl) := by
  refine cn_of (lv0 := [(0, .ref (v + 7)), (1, .int (nI 4))]) (by decide +kernel) ⟨_, rfl, rfl⟩ (fun _ => by simp [lg_sl, j_v, Value.category]) (fun _ => rfl) ?_
  refine rn_iload_n dX2_tell_0 rfl ?_
  refine rn_tableOut (tgt := 52) dX2_tell_1 (by decide) rfl ?_
  refine rn_aload_n dX2_tell_52 rfl ?_
  refine rn_getfield dX2_tell_53 fo_X2_22 (h_clock (by omega)) rfl ?_
  exact rn_ret dX2_tell_56 trivial rfl
theorem c_X2_tell {v k : Nat} (hv : v < 4) (hk : k ≤ 4) : Cn l D ad tc L xs mX2_tell 0 0 [.ref (v + 7), .int (nI k)] (wd S E, sl) (some (.int (cTell S v k))) (wd S E, sl) := by
  rcases (show k = 0 ∨ k = 1 ∨ k = 2 ∨ k = 3 ∨ k = 4 by omega) with rfl | rfl | rfl | rfl | rfl
  · exact c_X2_tell_0 hv
  · exact c_X2_tell_1 hv
  · exact c_X2_tell_2 hv
  · exact c_X2_tell_3 hv
  · exact c_X2_tell_4 hv
set_option maxRecDepth 20000 in
theorem c_X9_ofClock {n nr nc nk v k : Nat} (hT : Told S n nr nc nk) (hv : v < nk) (hk : k ≤ 4) : Cn l D ad tc L xs mX9_ofClock 1 22 [.ref 1, .int (nI v), .int (nI k)] (wd S E, sl) (some (.int (cTell S v k))) (wd S E, sl) := by
  refine cn_of (lv0 := [(0, .ref 1), (1, .int (nI v)), (2, .int (nI k))]) (by decide +kernel) ⟨_, rfl, rfl⟩ (fun _ => by simp [lg_sl, j_v, Value.category]) (fun _ => rfl) ?_
  have hk4 := hT.2.2.2.1.2
  refine rn_aload_n dX9_ofClock_0 rfl ?_
  refine rn_getfield dX9_ofClock_1 fo_X9_12 h_SH rfl ?_
  refine rn_iload_n dX9_ofClock_4 rfl ?_
  refine rn_callV dX9_ofClock_5 cv_X9_47 c_X1_hasClock rfl h_chip rfl rfl (by decide) (by decide) rfl (Nat.le_of_ble_eq_true rfl) ?_
  refine rn_topi (is_b (decide_eq_true ⟨Int32.not_lt.mp (nI_pos (by omega)), by rw [hT.2.2.2.1.1]; exact nI_lt hv (by omega)⟩)) ?_
  refine rn_callS dX9_ofClock_8 cs_X9_51 (c_X9_mustExist (by decide)) rfl (by decide) (by decide) rfl (Nat.le_of_ble_eq_true rfl) ?_
  refine rn_iload_n dX9_ofClock_11 rfl ?_
  refine rn_iconst (v := 0) dX9_ofClock_12 rfl ?_
  refine rn_iconst (v := 4) dX9_ofClock_13 rfl ?_
  refine rn_callS dX9_ofClock_14 cs_X9_33 c_X9_isIn rfl (by decide) (by decide) rfl (Nat.le_of_ble_eq_true rfl) ?_
  refine rn_topi (is_b (decide_eq_true ⟨Int32.not_lt.mp (nI_pos (by omega)), by rw [show (4 : Int32) = nI 4 by decide, Int32.le_iff_toInt_le, nI_toInt (by omega), nI_toInt (by omega)]; omega⟩)) ?_
  refine rn_callS dX9_ofClock_17 cs_X9_37 (c_X9_mustFit (by decide)) rfl (by decide) (by decide) rfl (Nat.le_of_ble_eq_true rfl) ?_
  refine rn_aload_n dX9_ofClock_20 rfl ?_
  refine rn_getfield dX9_ofClock_21 fo_X9_12 h_SH rfl ?_
  refine rn_getfield dX9_ofClock_24 fo_X9_54 h_chip rfl ?_
  refine rn_iload_n dX9_ofClock_27 rfl ?_
  refine rn_aaload dX9_ofClock_28 h_clocks rfl (vp_in_nI (by omega) (by decide)) (refs_at rfl (by omega) (by decide)) ?_
  refine rn_iload_n dX9_ofClock_29 rfl ?_
  refine rn_callV dX9_ofClock_30 cv_X9_149 (c_X2_tell (by omega) hk) rfl (h_clock (by omega)) rfl rfl (by decide) (by decide) rfl (Nat.le_of_ble_eq_true rfl) ?_
  exact rn_ret dX9_ofClock_33 trivial rfl
def oTell (S : jS) (n i k : Nat) : Int32 := if k = 5 then mTf S (nI i) n else nTell S i k
set_option maxRecDepth 20000 in
theorem c_X9_ofNode_n {n nr nc nk i k : Nat} (hT : Told S n nr nc nk) (hi : i < n) (hk : k ≤ 6) (h5 : k ≠ 5) : Cn l D ad tc L xs mX9_ofNode 1 23 [.ref 1, .int (nI i), .int (nI k)] (wd S E, sl) (some (.int (nTell S i k))) (wd S E, sl) := by
  refine cn_of (lv0 := [(0, .ref 1), (1, .int (nI i)), (2, .int (nI k))]) (by decide +kernel) ⟨_, rfl, rfl⟩ (fun _ => by simp [lg_sl, j_v, Value.category]) (fun _ => rfl) ?_
  have hn := hT.1.2
  have hN := hT.1.1
  refine rn_aload_n dX9_ofNode_0 rfl ?_
  refine rn_getfield dX9_ofNode_1 fo_X9_12 h_SH rfl ?_
  refine rn_iload_n dX9_ofNode_4 rfl ?_
  refine rn_callV dX9_ofNode_5 cv_X9_85 c_X1_hasNode rfl h_chip rfl rfl (by decide) (by decide) rfl (Nat.le_of_ble_eq_true rfl) ?_
  refine rn_topi (has_n hN hn hi) ?_
  refine rn_callS dX9_ofNode_8 cs_X9_51 (c_X9_mustExist (by decide)) rfl (by decide) (by decide) rfl (Nat.le_of_ble_eq_true rfl) ?_
  refine rn_iload_n dX9_ofNode_11 rfl ?_
  refine rn_iconst (v := 0) dX9_ofNode_12 rfl ?_
  refine rn_bipush (v := 6) dX9_ofNode_13 rfl ?_
  refine rn_callS dX9_ofNode_15 cs_X9_33 c_X9_isIn rfl (by decide) (by decide) rfl (Nat.le_of_ble_eq_true rfl) ?_
  refine rn_topi (is_b (decide_eq_true ⟨Int32.not_lt.mp (nI_pos (by omega)), by rw [show (6 : Int32) = nI 6 by decide, Int32.le_iff_toInt_le, nI_toInt (by omega), nI_toInt (by omega)]; omega⟩)) ?_
  refine rn_callS dX9_ofNode_18 cs_X9_37 (c_X9_mustFit (by decide)) rfl (by decide) (by decide) rfl (Nat.le_of_ble_eq_true rfl) ?_
  refine rn_iload_n dX9_ofNode_21 rfl ?_
  refine rn_iconst (v := nI 5) dX9_ofNode_22 (by decide) ?_
  refine rn_icmp_ne (tgt := 37) dX9_ofNode_23 rfl (fun _ => ?_) (fun q1 => absurd q1 (by exact fun z => h5 ((nI_eq (by omega) (by omega)).mp z)))
  refine rn_aload_n dX9_ofNode_37 rfl ?_
  refine rn_getfield dX9_ofNode_38 fo_X9_12 h_SH rfl ?_
  refine rn_getfield dX9_ofNode_41 fo_X9_88 h_chip rfl ?_
  refine rn_iload_n dX9_ofNode_44 rfl ?_
  refine rn_aaload dX9_ofNode_45 h_nodes rfl (vp_in_nI (by omega) (by decide)) (refs_at rfl (by omega) (by decide)) ?_
  refine rn_iload_n dX9_ofNode_46 rfl ?_
  refine rn_callV dX9_ofNode_47 cv_X9_156 (c_X5_tell (by omega) hk) rfl (h_node (by omega)) rfl rfl (by decide) (by decide) rfl (Nat.le_of_ble_eq_true rfl) ?_
  exact rn_ret dX9_ofNode_50 trivial rfl
set_option maxRecDepth 20000 in
theorem c_X9_ofNode_5 {n nr nc nk i k : Nat} (hT : Told S n nr nc nk) (hi : i < n) (hk : k ≤ 6) (h5 : k = 5) : Cn l D ad tc L xs mX9_ofNode 1 23 [.ref 1, .int (nI i), .int (nI k)] (wd S E, sl) (some (.int (mTf S (nI i) n))) (wd S E, sl) := by
  refine cn_of (lv0 := [(0, .ref 1), (1, .int (nI i)), (2, .int (nI k))]) (by decide +kernel) ⟨_, rfl, rfl⟩ (fun _ => by simp [lg_sl, j_v, Value.category]) (fun _ => rfl) ?_
  have hn := hT.1.2
  have hN := hT.1.1
  refine rn_aload_n dX9_ofNode_0 rfl ?_
  refine rn_getfield dX9_ofNode_1 fo_X9_12 h_SH rfl ?_
  refine rn_iload_n dX9_ofNode_4 rfl ?_
  refine rn_callV dX9_ofNode_5 cv_X9_85 c_X1_hasNode rfl h_chip rfl rfl (by decide) (by decide) rfl (Nat.le_of_ble_eq_true rfl) ?_
  refine rn_topi (has_n hN hn hi) ?_
  refine rn_callS dX9_ofNode_8 cs_X9_51 (c_X9_mustExist (by decide)) rfl (by decide) (by decide) rfl (Nat.le_of_ble_eq_true rfl) ?_
  refine rn_iload_n dX9_ofNode_11 rfl ?_
  refine rn_iconst (v := 0) dX9_ofNode_12 rfl ?_
  refine rn_bipush (v := 6) dX9_ofNode_13 rfl ?_
  refine rn_callS dX9_ofNode_15 cs_X9_33 c_X9_isIn rfl (by decide) (by decide) rfl (Nat.le_of_ble_eq_true rfl) ?_
  refine rn_topi (is_b (decide_eq_true ⟨Int32.not_lt.mp (nI_pos (by omega)), by rw [show (6 : Int32) = nI 6 by decide, Int32.le_iff_toInt_le, nI_toInt (by omega), nI_toInt (by omega)]; omega⟩)) ?_
  refine rn_callS dX9_ofNode_18 cs_X9_37 (c_X9_mustFit (by decide)) rfl (by decide) (by decide) rfl (Nat.le_of_ble_eq_true rfl) ?_
  refine rn_iload_n dX9_ofNode_21 rfl ?_
  refine rn_iconst (v := nI 5) dX9_ofNode_22 (by decide) ?_
  refine rn_icmp_ne (tgt := 37) dX9_ofNode_23 rfl (fun q1 => absurd q1 (by exact fun z => z (by rw [h5]))) (fun _ => ?_)
  refine rn_aload_n dX9_ofNode_26 rfl ?_
  refine rn_getfield dX9_ofNode_27 fo_X9_12 h_SH rfl ?_
  refine rn_iload_n dX9_ofNode_30 rfl ?_
  refine rn_callV dX9_ofNode_31 cv_X9_153 (c_X1_timesFeed hT) rfl h_chip rfl rfl (by decide) (by decide) rfl (Nat.le_of_ble_eq_true rfl) ?_
  refine rn_goto (tgt := 50) dX9_ofNode_34 rfl ?_
  exact rn_ret dX9_ofNode_50 trivial rfl
theorem c_X9_ofNode {n nr nc nk i k : Nat} (hT : Told S n nr nc nk) (hi : i < n) (hk : k ≤ 6) : Cn l D ad tc L xs mX9_ofNode 1 23 [.ref 1, .int (nI i), .int (nI k)] (wd S E, sl) (some (.int (oTell S n i k))) (wd S E, sl) := by
  unfold oTell
  by_cases h5 : k = 5
  · rw [if_pos h5]
    exact c_X9_ofNode_5 hT hi hk h5
  · rw [if_neg h5]
    exact c_X9_ofNode_n hT hi hk h5
end Q10
