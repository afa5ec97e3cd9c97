/-! SlackHall's constructor: the fresh object -/
/-- a SlackHall of which nothing has been told -/
def s0 : jS := (fun k f => if k = 1 then (if f = 5 then 1 else 0) else if k < 13 then 0 else if k < 29 then (if f = 5 then 1 else if f = 1 then -1 else if f = 2 then -1 else if f = 3 then -1 else 0) else if k < 35 then (if f = 1 then -1 else if f = 2 then -1 else 0) else 0, fun _ _ => 0, fun k _ => if k < 10 then 0 else if k < 13 then FP.dconst1 else 0, fun k f => if k < 13 then 0 else if k < 29 then (if f = 6 then FP.fconst1 else 0) else 0, fun _ => 0)
set_option maxRecDepth 20000 in
theorem s0_wd : (.inr (9, [.ref 2, .ref 36, .int 0, .int 0]) :: (chT 4 3 16 6 ++ anT) : List j_C) = wd s0 [] := rfl
section N4
variable {l : Launch} {D : va_G} {ad : Nat → Nat} {tc : Nat → ClassId} {L : Nat} {xs : Nat → Int32} {G : List j_C} {a sl : Nat} {r : Option Value} {h' : j_H}
set_option maxRecDepth 20000 in
theorem c_X9_init : Cn l D ad tc L xs mX9_init 3 66 [.ref 1] ([.inr (9, [.null, .null, .int 0, .int 0])], sl) none (wd s0 [], sl + 8 + 4 + 3 + 16 + 6 + 4 * 5 + 3 * 2 + 16 * 8 + 6 * 3 + 7 + 3 + 3 + 6 + 16 + 16 + 256 + 256 + 4 + 16 + 16 + 4 + 16 + 16 + 9 + 512 + 256 + 16 + 16 + 9 + 512 + 256 + 16 + 16 + 9 + 512 + 256 + 16 + 16 + 9 + 512 + 256 + 16 + 16 + 9 + 512 + 256 + 16 + 16 + 9 + 512 + 256 + 16 + 16 + 9 + 512 + 256 + 16 + 16) := by
  refine cn_of (lv0 := [(0, .ref 1)]) (by decide +kernel) rfl (fun _ => by simp [lg_sl, j_v, Value.category]) (fun _ => rfl) ?_
  refine rn_aload_n dX9_init_0 rfl ?_
  refine rn_objInit dX9_init_1 wd_377 wd_0 wd_1 (by decide) (by decide) (by decide) ?_
  refine rn_aload_n dX9_init_4 rfl ?_
  refine rnT_new (G := []) (T := [.inr (9, [.null, .null, .int 0, .int 0])]) (a := 0) (t := 1) rfl rfl dX9_init_5 no_X9_9 ?_
  refine rn_dup dX9_init_8 rfl ?_
  refine rn_h (h2 := ([.inr (9, [.null, .null, .int 0, .int 0])] ++ [.inr (1, [.null, .null, .null, .null, .int 0, .int 0, .int 0, .int 0])], sl + 8)) rfl ?_
  refine rn_callI dX9_init_9 ci_X9_11 (c_X1_init rfl) rfl (by decide) (by decide) rfl (Nat.le_of_ble_eq_true rfl) ?_
  refine rn_h (h2 := ([] ++ (.inr (9, [.null, .null, .int 0, .int 0]) :: chT 4 3 16 6), sl + 8 + 4 + 3 + 16 + 6 + 4 * 5 + 3 * 2 + 16 * 8 + 6 * 3)) rfl ?_
  refine rnT_put (a := 0) (i := 0) rfl dX9_init_12 fp_X9_12 rfl (by decide) (fun _ => ⟨rfl, rfl⟩) (Or.inl rfl) ?_
  refine rn_h (h2 := ([] ++ (.inr (9, [.ref 2, .null, .int 0, .int 0]) :: chT 4 3 16 6), sl + 8 + 4 + 3 + 16 + 6 + 4 * 5 + 3 * 2 + 16 * 8 + 6 * 3)) rfl ?_
  refine rn_aload_n dX9_init_15 rfl ?_
  refine rnT_new (a := 0) (t := 35) rfl rfl dX9_init_16 no_X9_16 ?_
  refine rn_dup dX9_init_19 rfl ?_
  refine rn_h (h2 := ([] ++ ((.inr (9, [.ref 2, .null, .int 0, .int 0]) :: chT 4 3 16 6) ++ [.inr (0, [.null, .null, .null, .null, .null, .null, .null])]), sl + 8 + 4 + 3 + 16 + 6 + 4 * 5 + 3 * 2 + 16 * 8 + 6 * 3 + 7)) rfl ?_
  refine rn_aload_n dX9_init_20 rfl ?_
  refine rnT_get (a := 0) (i := 0) rfl dX9_init_21 fo_X9_12 rfl rfl ?_
  refine rn_h (h2 := ((.inr (9, [.ref 2, .null, .int 0, .int 0]) :: chT 4 3 16 6) ++ [.inr (0, [.null, .null, .null, .null, .null, .null, .null])], sl + 8 + 4 + 3 + 16 + 6 + 4 * 5 + 3 * 2 + 16 * 8 + 6 * 3 + 7)) rfl ?_
  refine rn_callI dX9_init_24 ci_X9_18 (c_X0_init rfl) rfl (by decide) (by decide) rfl (Nat.le_of_ble_eq_true rfl) ?_
  refine rn_h (h2 := ([] ++ (.inr (9, [.ref 2, .null, .int 0, .int 0]) :: (chT 4 3 16 6 ++ anT)), sl + 8 + 4 + 3 + 16 + 6 + 4 * 5 + 3 * 2 + 16 * 8 + 6 * 3 + 7 + 3 + 3 + 6 + 16 + 16 + 256 + 256 + 4 + 16 + 16 + 4 + 16 + 16 + 9 + 512 + 256 + 16 + 16 + 9 + 512 + 256 + 16 + 16 + 9 + 512 + 256 + 16 + 16 + 9 + 512 + 256 + 16 + 16 + 9 + 512 + 256 + 16 + 16 + 9 + 512 + 256 + 16 + 16 + 9 + 512 + 256 + 16 + 16)) rfl ?_
  refine rnT_put (a := 0) (i := 0) rfl dX9_init_27 fp_X9_21 rfl (by decide) (fun _ => ⟨rfl, rfl⟩) (Or.inl rfl) ?_
  refine rn_h (h2 := (wd s0 [], sl + 8 + 4 + 3 + 16 + 6 + 4 * 5 + 3 * 2 + 16 * 8 + 6 * 3 + 7 + 3 + 3 + 6 + 16 + 16 + 256 + 256 + 4 + 16 + 16 + 4 + 16 + 16 + 9 + 512 + 256 + 16 + 16 + 9 + 512 + 256 + 16 + 16 + 9 + 512 + 256 + 16 + 16 + 9 + 512 + 256 + 16 + 16 + 9 + 512 + 256 + 16 + 16 + 9 + 512 + 256 + 16 + 16 + 9 + 512 + 256 + 16 + 16)) (by rw [← s0_wd]; rfl) ?_
  exact rn_ret dX9_init_30 trivial rfl
end N4
