/-! constructors: the leaves, and the makers of rows -/
section N1
variable {l : Launch} {D : va_G} {ad : Nat → Nat} {tc : Nat → ClassId} {L : Nat} {xs : Nat → Int32} {G : List j_C} {a sl : Nat}
set_option maxRecDepth 20000 in
theorem c_X2_init (ha : G.length = a) : Cn l D ad tc L xs mX2_init 1 20 [.ref (a + 0 + 1)] (G ++ [.inr (2, [.int 0, .int 0, .int 0, .int 0, .int 0])], sl) none (G ++ [.inr (2, [.int 0, .int 0, .int 0, .int 0, .int 0])], sl) := by
  refine cn_of (lv0 := [(0, .ref (a + 0 + 1))]) (by decide +kernel) rfl (fun _ => by simp [lg_sl, j_v, Value.category]) (fun _ => rfl) ?_
  refine rn_aload_n dX2_init_0 rfl ?_
  refine rn_objInit dX2_init_1 wd_143 wd_0 wd_1 (by decide) (by decide) (by decide) ?_
  exact rn_ret dX2_init_4 trivial rfl
set_option maxRecDepth 20000 in
theorem c_X3_init (ha : G.length = a) : Cn l D ad tc L xs mX3_init 1 20 [.ref (a + 0 + 1)] (G ++ [.inr (3, [.double 0, .double 0])], sl) none (G ++ [.inr (3, [.double FP.dconst1, .double FP.dconst1])], sl) := by
  refine cn_of (lv0 := [(0, .ref (a + 0 + 1))]) (by decide +kernel) rfl (fun _ => by simp [lg_sl, j_v, Value.category]) (fun _ => rfl) ?_
  refine rn_aload_n dX3_init_0 rfl ?_
  refine rn_objInit dX3_init_1 wd_149 wd_0 wd_1 (by decide) (by decide) (by decide) ?_
  refine rn_aload_n dX3_init_4 rfl ?_
  refine rn_dconst1 dX3_init_5 ?_
  refine rnT_put (i := 0) ha dX3_init_6 fp_X3_7 rfl (by simp) (fun _ => ⟨rfl, rfl⟩) (Or.inl rfl) ?_
  refine rn_aload_n dX3_init_9 rfl ?_
  refine rn_dconst1 dX3_init_10 ?_
  refine rnT_put (i := 0) ha dX3_init_11 fp_X3_13 rfl (by simp) (fun _ => ⟨rfl, rfl⟩) (Or.inl rfl) ?_
  exact rn_ret dX3_init_14 trivial rfl
set_option maxRecDepth 20000 in
theorem c_X5_init {v : Nat} (ha : G.length = a) : Cn l D ad tc L xs mX5_init 1 20 [.ref (a + 0 + 1), .ref v] (G ++ [.inr (5, [.int 0, .int 0, .int 0, .int 0, .null, .int 0, .float 0, .int 0])], sl) none (G ++ [.inr (5, [.int 0, .int (-1), .int (-1), .int (-1), .ref v, .int 1, .float FP.fconst1, .int 0])], sl) := by
  refine cn_of (lv0 := [(0, .ref (a + 0 + 1)), (1, .ref v)]) (by decide +kernel) rfl (fun _ => by simp [lg_sl, j_v, Value.category]) (fun _ => rfl) ?_
  refine rn_aload_n dX5_init_0 rfl ?_
  refine rn_objInit dX5_init_1 wd_198 wd_0 wd_1 (by decide) (by decide) (by decide) ?_
  refine rn_aload_n dX5_init_4 rfl ?_
  refine rn_iconst (v := (-1)) dX5_init_5 rfl ?_
  refine rnT_put (i := 0) ha dX5_init_6 fp_X5_9 rfl (by simp) (fun _ => ⟨rfl, rfl⟩) (Or.inl rfl) ?_
  refine rn_aload_n dX5_init_9 rfl ?_
  refine rn_iconst (v := (-1)) dX5_init_10 rfl ?_
  refine rnT_put (i := 0) ha dX5_init_11 fp_X5_15 rfl (by simp) (fun _ => ⟨rfl, rfl⟩) (Or.inl rfl) ?_
  refine rn_aload_n dX5_init_14 rfl ?_
  refine rn_iconst (v := (-1)) dX5_init_15 rfl ?_
  refine rnT_put (i := 0) ha dX5_init_16 fp_X5_18 rfl (by simp) (fun _ => ⟨rfl, rfl⟩) (Or.inl rfl) ?_
  refine rn_aload_n dX5_init_19 rfl ?_
  refine rn_iconst (v := 1) dX5_init_20 rfl ?_
  refine rnT_put (i := 0) ha dX5_init_21 fp_X5_21 rfl (by simp) (fun _ => ⟨rfl, rfl⟩) (Or.inl rfl) ?_
  refine rn_aload_n dX5_init_24 rfl ?_
  refine rn_fconst1 dX5_init_25 ?_
  refine rnT_put (i := 0) ha dX5_init_26 fp_X5_24 rfl (by simp) (fun _ => ⟨rfl, rfl⟩) (Or.inl rfl) ?_
  refine rn_aload_n dX5_init_29 rfl ?_
  refine rn_aload_n dX5_init_30 rfl ?_
  refine rnT_put (i := 0) ha dX5_init_31 fp_X5_28 rfl (by simp) (fun _ => ⟨rfl, rfl⟩) (Or.inl rfl) ?_
  exact rn_ret dX5_init_34 trivial rfl
set_option maxRecDepth 20000 in
theorem c_X7_init (ha : G.length = a) : Cn l D ad tc L xs mX7_init 1 20 [.ref (a + 0 + 1)] (G ++ [.inr (7, [.int 0, .int 0, .int 0])], sl) none (G ++ [.inr (7, [.int 0, .int (-1), .int (-1)])], sl) := by
  refine cn_of (lv0 := [(0, .ref (a + 0 + 1))]) (by decide +kernel) rfl (fun _ => by simp [lg_sl, j_v, Value.category]) (fun _ => rfl) ?_
  refine rn_aload_n dX7_init_0 rfl ?_
  refine rn_objInit dX7_init_1 wd_267 wd_0 wd_1 (by decide) (by decide) (by decide) ?_
  refine rn_aload_n dX7_init_4 rfl ?_
  refine rn_iconst (v := (-1)) dX7_init_5 rfl ?_
  refine rnT_put (i := 0) ha dX7_init_6 fp_X7_9 rfl (by simp) (fun _ => ⟨rfl, rfl⟩) (Or.inl rfl) ?_
  refine rn_aload_n dX7_init_9 rfl ?_
  refine rn_iconst (v := (-1)) dX7_init_10 rfl ?_
  refine rnT_put (i := 0) ha dX7_init_11 fp_X7_15 rfl (by simp) (fun _ => ⟨rfl, rfl⟩) (Or.inl rfl) ?_
  exact rn_ret dX7_init_14 trivial rfl
set_option maxRecDepth 20000 in
theorem c_X6_init {v : Nat} (ha : G.length = a) : Cn l D ad tc L xs mX6_init 1 20 [.ref (a + 0 + 1), .ref v] (G ++ [.inr (6, [.null, .null, .null, .null, .null, .int 0])], sl) none (G ++ [.inr (6, [.ref v, .ref (a + 1 + 1), .ref (a + 2 + 1), .ref (a + 3 + 1), .ref (a + 4 + 1), .int 0]), .inl (0, 16, .inl (fun _ => 0)), .inl (0, 16, .inl (fun _ => 0)), .inl (0, 256, .inl (fun _ => 0)), .inl (0, 256, .inl (fun _ => 0))], sl + 16 + 16 + 256 + 256) := by
  refine cn_of (lv0 := [(0, .ref (a + 0 + 1)), (1, .ref v)]) (by decide +kernel) rfl (fun _ => by simp [lg_sl, j_v, Value.category]) (fun _ => rfl) ?_
  refine rn_aload_n dX6_init_0 rfl ?_
  refine rn_objInit dX6_init_1 wd_209 wd_0 wd_1 (by decide) (by decide) (by decide) ?_
  refine rn_aload_n dX6_init_4 rfl ?_
  refine rn_bipush (v := 16) dX6_init_5 rfl ?_
  refine rnT_newarr (t := 0) (N := 16) (u := 1) (f := (16, .inl (fun _ => 0))) ha rfl dX6_init_7 rfl wd_210 (by decide) (by decide) (by decide) (fun _ => rfl) (fun _ _ => rfl) ?_
  refine rnT_put (i := 0) ha dX6_init_9 fp_X6_9 rfl (by simp) (fun _ => ⟨rfl, rfl⟩) (Or.inl rfl) ?_
  refine rn_aload_n dX6_init_12 rfl ?_
  refine rn_bipush (v := 16) dX6_init_13 rfl ?_
  refine rnT_newarr (t := 0) (N := 16) (u := 2) (f := (16, .inl (fun _ => 0))) ha rfl dX6_init_15 rfl wd_210 (by decide) (by decide) (by decide) (fun _ => rfl) (fun _ _ => rfl) ?_
  refine rnT_put (i := 0) ha dX6_init_17 fp_X6_15 rfl (by simp) (fun _ => ⟨rfl, rfl⟩) (Or.inl rfl) ?_
  refine rn_aload_n dX6_init_20 rfl ?_
  refine rn_sipush (v := 256) dX6_init_21 rfl ?_
  refine rnT_newarr (t := 0) (N := 256) (u := 3) (f := (256, .inl (fun _ => 0))) ha rfl dX6_init_24 rfl wd_210 (by decide) (by decide) (by decide) (fun _ => rfl) (fun _ _ => rfl) ?_
  refine rnT_put (i := 0) ha dX6_init_26 fp_X6_18 rfl (by simp) (fun _ => ⟨rfl, rfl⟩) (Or.inl rfl) ?_
  refine rn_aload_n dX6_init_29 rfl ?_
  refine rn_sipush (v := 256) dX6_init_30 rfl ?_
  refine rnT_newarr (t := 0) (N := 256) (u := 4) (f := (256, .inl (fun _ => 0))) ha rfl dX6_init_33 rfl wd_210 (by decide) (by decide) (by decide) (fun _ => rfl) (fun _ _ => rfl) ?_
  refine rnT_put (i := 0) ha dX6_init_35 fp_X6_21 rfl (by simp) (fun _ => ⟨rfl, rfl⟩) (Or.inl rfl) ?_
  refine rn_aload_n dX6_init_38 rfl ?_
  refine rn_aload_n dX6_init_39 rfl ?_
  refine rnT_put (i := 0) ha dX6_init_40 fp_X6_24 rfl (by simp) (fun _ => ⟨rfl, rfl⟩) (Or.inl rfl) ?_
  exact rn_ret dX6_init_43 trivial rfl
set_option maxRecDepth 20000 in
theorem c_X4_init {v : Nat} (ha : G.length = a) : Cn l D ad tc L xs mX4_init 1 20 [.ref (a + 0 + 1), .ref v] (G ++ [.inr (4, [.null, .null, .null, .int 0])], sl) none (G ++ [.inr (4, [.ref v, .ref (a + 1 + 1), .ref (a + 2 + 1), .int 0]), .inl (2, 16, .inr (.inr (.inl (fun _ => 0)))), .inl (1, 16, .inr (.inr (.inr (.inl (fun _ => 0)))))], sl + 16 + 16) := by
  refine cn_of (lv0 := [(0, .ref (a + 0 + 1)), (1, .ref v)]) (by decide +kernel) rfl (fun _ => by simp [lg_sl, j_v, Value.category]) (fun _ => rfl) ?_
  refine rn_aload_n dX4_init_0 rfl ?_
  refine rn_objInit dX4_init_1 wd_152 wd_0 wd_1 (by decide) (by decide) (by decide) ?_
  refine rn_aload_n dX4_init_4 rfl ?_
  refine rn_bipush (v := 16) dX4_init_5 rfl ?_
  refine rnT_newarr (t := 2) (N := 16) (u := 1) (f := (16, .inr (.inr (.inl (fun _ => 0))))) ha rfl dX4_init_7 rfl wd_153 (by decide) (by decide) (by decide) (fun _ => rfl) (fun _ _ => rfl) ?_
  refine rnT_put (i := 0) ha dX4_init_9 fp_X4_9 rfl (by simp) (fun _ => ⟨rfl, rfl⟩) (Or.inl rfl) ?_
  refine rn_aload_n dX4_init_12 rfl ?_
  refine rn_bipush (v := 16) dX4_init_13 rfl ?_
  refine rnT_newarr (t := 1) (N := 16) (u := 2) (f := (16, .inr (.inr (.inr (.inl (fun _ => 0)))))) ha rfl dX4_init_15 rfl wd_155 (by decide) (by decide) (by decide) (fun _ => rfl) (fun _ _ => rfl) ?_
  refine rnT_put (i := 0) ha dX4_init_17 fp_X4_15 rfl (by simp) (fun _ => ⟨rfl, rfl⟩) (Or.inl rfl) ?_
  refine rn_aload_n dX4_init_20 rfl ?_
  refine rn_aload_n dX4_init_21 rfl ?_
  refine rnT_put (i := 0) ha dX4_init_22 fp_X4_19 rfl (by simp) (fun _ => ⟨rfl, rfl⟩) (Or.inl rfl) ?_
  exact rn_ret dX4_init_25 trivial rfl
set_option maxRecDepth 20000 in
theorem c_X8_init {v u w : Nat} {b : Int32} (hb : narrow .boolean (.int b) = .int b ∧ fits .boolean (.int b) = true) (ha : G.length = a) : Cn l D ad tc L xs mX8_init 1 20 [.ref (a + 0 + 1), .ref v, .ref u, .ref w, .int b] (G ++ [.inr (8, [.null, .null, .null, .int 0, .null, .null, .null, .null, .int 0])], sl) none (G ++ [.inr (8, [.ref v, .ref u, .ref w, .int b, .ref (a + 1 + 1), .ref (a + 2 + 1), .ref (a + 3 + 1), .ref (a + 4 + 1), .int 0]), .inl (1, 512, .inr (.inr (.inr (.inl (fun _ => 0))))), .inl (1, 256, .inr (.inr (.inr (.inl (fun _ => 0))))), .inl (1, 16, .inr (.inr (.inr (.inl (fun _ => 0))))), .inl (1, 16, .inr (.inr (.inr (.inl (fun _ => 0)))))], sl + 512 + 256 + 16 + 16) := by
  refine cn_of (lv0 := [(0, .ref (a + 0 + 1)), (1, .ref v), (2, .ref u), (3, .ref w), (4, .int b)]) (by decide +kernel) rfl (fun _ => by simp [lg_sl, j_v, Value.category]) (fun _ => rfl) ?_
  refine rn_aload_n dX8_init_0 rfl ?_
  refine rn_objInit dX8_init_1 wd_271 wd_0 wd_1 (by decide) (by decide) (by decide) ?_
  refine rn_aload_n dX8_init_4 rfl ?_
  refine rn_sipush (v := 512) dX8_init_5 rfl ?_
  refine rnT_newarr (t := 1) (N := 512) (u := 1) (f := (512, .inr (.inr (.inr (.inl (fun _ => 0)))))) ha rfl dX8_init_8 rfl wd_155 (by decide) (by decide) (by decide) (fun _ => rfl) (fun _ _ => rfl) ?_
  refine rnT_put (i := 0) ha dX8_init_10 fp_X8_9 rfl (by simp) (fun _ => ⟨rfl, rfl⟩) (Or.inl rfl) ?_
  refine rn_aload_n dX8_init_13 rfl ?_
  refine rn_sipush (v := 256) dX8_init_14 rfl ?_
  refine rnT_newarr (t := 1) (N := 256) (u := 2) (f := (256, .inr (.inr (.inr (.inl (fun _ => 0)))))) ha rfl dX8_init_17 rfl wd_155 (by decide) (by decide) (by decide) (fun _ => rfl) (fun _ _ => rfl) ?_
  refine rnT_put (i := 0) ha dX8_init_19 fp_X8_15 rfl (by simp) (fun _ => ⟨rfl, rfl⟩) (Or.inl rfl) ?_
  refine rn_aload_n dX8_init_22 rfl ?_
  refine rn_bipush (v := 16) dX8_init_23 rfl ?_
  refine rnT_newarr (t := 1) (N := 16) (u := 3) (f := (16, .inr (.inr (.inr (.inl (fun _ => 0)))))) ha rfl dX8_init_25 rfl wd_155 (by decide) (by decide) (by decide) (fun _ => rfl) (fun _ _ => rfl) ?_
  refine rnT_put (i := 0) ha dX8_init_27 fp_X8_18 rfl (by simp) (fun _ => ⟨rfl, rfl⟩) (Or.inl rfl) ?_
  refine rn_aload_n dX8_init_30 rfl ?_
  refine rn_bipush (v := 16) dX8_init_31 rfl ?_
  refine rnT_newarr (t := 1) (N := 16) (u := 4) (f := (16, .inr (.inr (.inr (.inl (fun _ => 0)))))) ha rfl dX8_init_33 rfl wd_155 (by decide) (by decide) (by decide) (fun _ => rfl) (fun _ _ => rfl) ?_
  refine rnT_put (i := 0) ha dX8_init_35 fp_X8_21 rfl (by simp) (fun _ => ⟨rfl, rfl⟩) (Or.inl rfl) ?_
  refine rn_aload_n dX8_init_38 rfl ?_
  refine rn_aload_n dX8_init_39 rfl ?_
  refine rnT_put (i := 0) ha dX8_init_40 fp_X8_24 rfl (by simp) (fun _ => ⟨rfl, rfl⟩) (Or.inl rfl) ?_
  refine rn_aload_n dX8_init_43 rfl ?_
  refine rn_aload_n dX8_init_44 rfl ?_
  refine rnT_put (i := 0) ha dX8_init_45 fp_X8_28 rfl (by simp) (fun _ => ⟨rfl, rfl⟩) (Or.inl rfl) ?_
  refine rn_aload_n dX8_init_48 rfl ?_
  refine rn_aload_n dX8_init_49 rfl ?_
  refine rnT_put (i := 0) ha dX8_init_50 fp_X8_32 rfl (by simp) (fun _ => ⟨rfl, rfl⟩) (Or.inl rfl) ?_
  refine rn_aload_n dX8_init_53 rfl ?_
  refine rn_iload dX8_init_54 rfl ?_
  refine rnT_put (i := 0) ha dX8_init_56 fp_X8_36 rfl (by simp) (fun _ => hb) (Or.inl rfl) ?_
  exact rn_ret dX8_init_59 trivial rfl
end N1
