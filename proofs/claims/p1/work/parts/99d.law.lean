/-! the law: its start, its end -/
theorem ol_0 : ol 0 = .inl (8, 1, .inr (.inl (fun _ => 0))) := by
  unfold ol
  rw [show vp_updL (fun _ => 0) 0 0 = (fun _ => 0 : Nat → Int64) from funext fun j => by show (if j = 0 then (0 : Int64) else 0) = 0; split <;> rfl]
theorem od_0 : od 0 = .inl (1, 1, .inr (.inr (.inr (.inl (fun _ => 0))))) := by
  unfold od
  rw [show vf_upd (fun _ => 0) 0 0 = (fun _ => 0 : Nat → UInt64) from funext fun j => by show (if j = 0 then (0 : UInt64) else 0) = 0; split <;> rfl]
section LW
variable {l : Launch} {D : va_G} {ad : Nat → Nat} {tc : Nat → ClassId} {xs : Nat → Int32} {L : Nat}
theorem law_tail {h : j_H} {lv : j_L} (h5 : j_g lv 5 = some (.int 0)) (h0 : j_g lv 0 = some (.ref 0)) : Rn l D ad tc 6 xs mL_law 200 6000 2228 lv [] h (some (.int 1)) h := by
  refine rn_subg (lv' := [(5, .int 0), (0, .ref 0)]) (by simp [h5, h0, j_g]) ?_
  refine rn_iinc (v := 6) dL_law_2228 rfl (by decide) (by decide) rfl ?_
  refine rn_goto (tgt := 28) dL_law_2231 rfl ?_
  refine rn_iload dL_law_28 rfl ?_
  refine rn_aload_n dL_law_30 rfl ?_
  refine rn_slen dL_law_31 ?_
  refine rn_bipush (v := 6) dL_law_32 rfl ?_
  refine rn_isub dL_law_34 ?_
  refine rn_topi (y := 0) (by decide) ?_
  refine rn_icmp_gt (tgt := 2234) dL_law_35 rfl (fun _ => ?_) (fun q => absurd (by decide) q)
  refine rn_iconst (v := 1) dL_law_2234 rfl ?_
  exact rn_ret dL_law_2235 trivial rfl
theorem law_short {h : j_H} (hL : L < 6) : Rn l D ad tc L xs mL_law 200 6000 28 [(5, .int 0), (4, .ref 93), (3, .ref 92), (2, .ref 85), (1, .ref 1), (0, .ref 0)] [] h (some (.int 1)) h := by
  refine rn_iload dL_law_28 rfl ?_
  refine rn_aload_n dL_law_30 rfl ?_
  refine rn_slen dL_law_31 ?_
  refine rn_bipush (v := 6) dL_law_32 rfl ?_
  refine rn_isub dL_law_34 ?_
  refine rn_icmp_gt (tgt := 2234) dL_law_35 rfl (fun _ => ?_) (fun q => absurd (by
    rcases (by omega : L = 0 ∨ L = 1 ∨ L = 2 ∨ L = 3 ∨ L = 4 ∨ L = 5) with rfl | rfl | rfl | rfl | rfl | rfl <;> decide) q)
  refine rn_iconst (v := 1) dL_law_2234 rfl ?_
  exact rn_ret dL_law_2235 trivial rfl
set_option maxRecDepth 20000 in
theorem law_start {r : Option Value} {h' : j_H} (K : Rn l D ad tc L xs mL_law 200 6000 28 [(5, .int 0), (4, .ref 93), (3, .ref 92), (2, .ref 85), (1, .ref 1), (0, .ref 0)] [] (wd s0 (mdl (j_a0 D) 0 0 0 ++ [ol 0, od 0]), 6544) r h') : Rn l D ad tc L xs mL_law 200 6000 0 [(0, .ref 0)] [] ([], 0) r h' := by
  refine rnT_new (G := []) (T := []) (a := 0) (t := 0) rfl rfl dL_law_0 no_L_8 ?_
  refine rn_dup dL_law_3 rfl ?_
  refine rn_h (h2 := ([.inr (9, [.null, .null, .int 0, .int 0])], 4)) rfl ?_
  refine rn_callI dL_law_4 ci_L_95 (c_X9_init) rfl (by decide) (by decide) rfl (Nat.le_of_ble_eq_true rfl) ?_
  refine rn_h (h2 := (wd s0 [], 6511)) rfl ?_
  refine rn_astore_n dL_law_7 (by decide) rfl ?_
  refine rnT_new (G := gW s0) (T := []) (a := 84) (t := 0) gW_len rfl dL_law_8 no_L_96 ?_
  refine rn_dup dL_law_11 rfl ?_
  refine rn_h (h2 := (gW s0 ++ [.inr (11, [.int 0, .null, .null, .null, .null, .int 0, .int 0])], 6518)) rfl ?_
  refine rn_callI dL_law_12 ci_L_98 (c_X11_init gW_len) rfl (by decide) (by decide) rfl (Nat.le_of_ble_eq_true rfl) ?_
  refine rn_h (h2 := (gW s0 ++ mdl (j_a0 D) 0 0 0, 6542)) rfl ?_
  refine rn_astore_n dL_law_15 (by decide) rfl ?_
  refine rn_iconst (v := 1) dL_law_16 rfl ?_
  refine rnT_newarr (t := 8) (N := 1) (u := 7) (f := (1, .inr (.inl (fun _ => 0)))) gW_len rfl dL_law_17 rfl wd_770 (by decide) (by decide) (by decide) (fun _ => rfl) (fun _ _ => rfl) ?_
  refine rn_astore_n dL_law_19 (by decide) rfl ?_
  refine rn_iconst (v := 1) dL_law_20 rfl ?_
  refine rnT_newarr (t := 1) (N := 1) (u := 8) (f := (1, .inr (.inr (.inr (.inl (fun _ => 0)))))) gW_len rfl dL_law_21 rfl wd_155 (by decide) (by decide) (by decide) (fun _ => rfl) (fun _ _ => rfl) ?_
  refine rn_astore dL_law_23 (by decide) rfl ?_
  refine rn_iconst (v := 0) dL_law_25 rfl ?_
  refine rn_istore dL_law_26 (by decide) rfl ?_
  refine rn_h (h2 := (wd s0 (mdl (j_a0 D) 0 0 0 ++ [ol 0, od 0]), 6544)) (by rw [ol_0, od_0]; rfl) ?_
  exact rn_subg rfl K
end LW
