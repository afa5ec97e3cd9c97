/-! ArrayList on the few lists of a fresh reference; the reference's constructor -/
def eAL (a0 : Nat) : j_C := .inr (12, [.int 0, .retAddr a0, .int 0])
def oAL (f : Nat → Option Nat) : j_C := .inl (9, 10, .inr (.inr (.inr (.inr f))))
theorem set_app {T : List j_C} {i : Nat} {c x y : j_C} (h : T[i]? = some c) : (T ++ [x]).set i y = T.set i y ++ [x] := List.set_append_left _ _ (List.getElem?_eq_some_iff.mp h).1
theorem lat_app {T : List j_C} {i : Nat} {c x : j_C} (h : T[i]? = some c) : (T ++ [x])[i]? = some c := by
  rw [List.getElem?_append_left (List.getElem?_eq_some_iff.mp h).1]
  exact h
theorem lat_last {T : List j_C} {t : Nat} {x : j_C} (h : T.length = t) : (T ++ [x])[t]? = some x := by
  rw [← h, List.getElem?_append_right (Nat.le_refl _), Nat.sub_self]
  rfl
theorem lat_set {T : List j_C} {i : Nat} {c y : j_C} (h : T[i]? = some c) : (T.set i y)[i]? = some y := by
  rw [List.getElem?_set_self (List.getElem?_eq_some_iff.mp h).1]
theorem lat_ne {T : List j_C} {i v : Nat} {x y : j_C} (h : T[v]? = some x) (hn : i ≠ v) : (T.set i y)[v]? = some x := by
  rw [List.getElem?_set_ne hn]
  exact h
theorem set_set {T : List j_C} {i : Nat} {x y : j_C} : (T.set i x).set i y = T.set i y := List.set_set _
theorem iv_ne {T : List j_C} {i v t m : Nat} {fs : List Value} {f : Nat → Int32} {c : Nat} (h : T[i]? = some (.inr (c, fs))) (hv : T[v]? = some (.inl (t, m, .inl f))) : i ≠ v := by
  intro e
  subst e
  rw [h] at hv
  cases hv
theorem set_lastL {T : List j_C} {t : Nat} {x y : j_C} (h : T.length = t) : (T ++ [x]).set t y = T ++ [y] := by
  rw [List.set_append_right _ _ (by omega), h, Nat.sub_self]
  rfl
section R1
variable {l : Launch} {D : va_G} {ad : Nat → Nat} {tc : Nat → ClassId} {L : Nat} {xs : Nat → Int32} {M : j_M} {d lo pc : Nat} {lv : j_L} {st : List Value} {h h' : j_H} {r : Option Value} {G T : List j_C} {a sl t : Nat}
set_option maxRecDepth 20000 in
theorem c_AL_size {i : Nat} {m s : Int32} {e : Value} (he : h.1[i]? = some (.inr (12, [.int m, e, .int s]))) : Cn l D ad tc L xs mJx4a65c_size_8abf5 0 0 [.ref (i + 1)] h (some (.int s)) h := by
  refine cn_of (lv0 := [(0, .ref (i + 1))]) (by decide +kernel) ⟨_, rfl, rfl⟩ (fun _ => by simp [lg_sl, j_v, Value.category]) (fun _ => rfl) ?_
  refine rn_aload_n dJx4a65c_size_8abf5_0 rfl ?_
  refine rn_getfield dJx4a65c_size_8abf5_1 fo_Jx4a65c_48 he rfl ?_
  exact rn_ret dJx4a65c_size_8abf5_4 trivial rfl
set_option maxRecDepth 20000 in
theorem c_AC_init {x : Nat} : Cn l D ad tc L xs mJxa1e45_init_da8c8 1 20 [.ref x] h none h := by
  refine cn_of (lv0 := [(0, .ref x)]) (by decide +kernel) rfl (fun _ => by simp [lg_sl, j_v, Value.category]) (fun _ => rfl) ?_
  refine rn_aload_n dJxa1e45_init_da8c8_0 rfl ?_
  refine rn_objInit dJxa1e45_init_da8c8_1 wd_647 wd_0 wd_1 (by decide) (by decide) (by decide) ?_
  exact rn_ret dJxa1e45_init_da8c8_4 trivial rfl
set_option maxRecDepth 20000 in
theorem c_ALi_init (ha : G.length = a) : Cn l D ad tc L xs mJxc12de_init_da8c8 2 40 [.ref (a + 0 + 1)] (G ++ [.inr (12, [.int 0, .null, .int 0])], sl) none (G ++ [.inr (12, [.int 0, .null, .int 0])], sl) := by
  refine cn_of (lv0 := [(0, .ref (a + 0 + 1))]) (by decide +kernel) rfl (fun _ => by simp [lg_sl, j_v, Value.category]) (fun _ => rfl) ?_
  refine rn_aload_n dJxc12de_init_da8c8_0 rfl ?_
  refine rn_callI dJxc12de_init_da8c8_1 ci_Jxc12de_1 c_AC_init rfl (by decide) (by decide) rfl (Nat.le_of_ble_eq_true rfl) ?_
  refine rn_aload_n dJxc12de_init_da8c8_4 rfl ?_
  refine rn_iconst (v := 0) dJxc12de_init_da8c8_5 rfl ?_
  refine rnT_put (i := 0) ha dJxc12de_init_da8c8_6 fp_Jxc12de_7 rfl (by simp) (fun _ => ⟨rfl, rfl⟩) (Or.inl rfl) ?_
  exact rn_ret dJxc12de_init_da8c8_9 trivial rfl
set_option maxRecDepth 20000 in
theorem c_AL_init (ha : G.length = a) : Cn l D ad tc L xs mJx4a65c_init_da8c8 3 60 [.ref (a + 0 + 1)] (G ++ [.inr (12, [.int 0, .null, .int 0])], sl) none (G ++ [eAL (j_a0 D)], sl) := by
  refine cn_of (lv0 := [(0, .ref (a + 0 + 1))]) (by decide +kernel) rfl (fun _ => by simp [lg_sl, j_v, Value.category]) (fun _ => rfl) ?_
  refine rn_aload_n dJx4a65c_init_da8c8_0 rfl ?_
  refine rn_callI dJx4a65c_init_da8c8_1 ci_Jx4a65c_1 (c_ALi_init ha) rfl (by decide) (by decide) rfl (Nat.le_of_ble_eq_true rfl) ?_
  refine rn_aload_n dJx4a65c_init_da8c8_4 rfl ?_
  refine rn_getAL rfl wg_AL dJx4a65c_init_da8c8_5 ?_
  refine rnT_put (i := 0) ha dJx4a65c_init_da8c8_8 fp_Jx4a65c_9 rfl (by simp) (fun _ => ⟨rfl, rfl⟩) (Or.inl rfl) ?_
  exact rn_ret dJx4a65c_init_da8c8_11 trivial rfl
set_option maxRecDepth 20000 in
theorem c_AL_grow1 {i : Nat} {m : Int32} (ha : G.length = a) (ht : T.length = t) (he : T[i]? = some (.inr (12, [.int m, .retAddr (j_a0 D), .int 0]))) : Cn l D ad tc L xs mJx4a65c_grow_92f84 1 60 [.ref (a + i + 1), .int 1] (G ++ T, sl) (some (.ref (a + t + 1))) (G ++ (T.set i (.inr (12, [.int m, .ref (a + t + 1), .int 0])) ++ [oAL (fun _ => none)]), sl + 10) := by
  refine cn_of (lv0 := [(0, .ref (a + i + 1)), (1, .int 1)]) (by decide +kernel) ⟨_, rfl, Or.inr ⟨_, rfl⟩⟩ (fun _ => by simp [lg_sl, j_v, Value.category]) (fun _ => rfl) ?_
  refine rn_aload_n dJx4a65c_grow_92f84_0 rfl ?_
  refine rnT_get ha dJx4a65c_grow_92f84_1 fo_Jx4a65c_9 he rfl ?_
  refine rn_alenAL dJx4a65c_grow_92f84_4 ?_
  refine rn_istore_n dJx4a65c_grow_92f84_5 (by decide) rfl ?_
  refine rn_iload_n dJx4a65c_grow_92f84_6 rfl ?_
  refine rn_if_gt (tgt := 20) dJx4a65c_grow_92f84_7 rfl (fun q => absurd q (by decide)) (fun _ => ?_)
  refine rn_aload_n dJx4a65c_grow_92f84_10 rfl ?_
  refine rnT_get ha dJx4a65c_grow_92f84_11 fo_Jx4a65c_9 he rfl ?_
  refine rn_getAL rfl wg_AL dJx4a65c_grow_92f84_14 ?_
  refine rn_acmp_eqS (tgt := 45) dJx4a65c_grow_92f84_17 rfl ?_
  refine rn_aload_n dJx4a65c_grow_92f84_45 rfl ?_
  refine rn_bipush (v := 10) dJx4a65c_grow_92f84_46 rfl ?_
  refine rn_iload_n dJx4a65c_grow_92f84_48 rfl ?_
  refine rn_mmax rfl dJx4a65c_grow_92f84_49 (by decide) (by decide) (Nat.le_of_ble_eq_true rfl) ?_
  refine rn_topi (y := 10) (by decide) ?_
  refine rnT_anew (t := 9) (N := 10) (u := t) ha ht dJx4a65c_grow_92f84_52 rfl wd_665 (by decide +kernel) (by decide) (by decide) (by decide) ?_
  refine rn_dup_x1 dJx4a65c_grow_92f84_55 rfl rfl ?_
  refine rnT_put ha dJx4a65c_grow_92f84_56 fp_Jx4a65c_9 (lat_app he) (by simp) (fun _ => ⟨rfl, rfl⟩) (Or.inr ⟨_, _, _, rfl, rfl⟩) ?_
  rw [set_app he]
  exact rn_ret dJx4a65c_grow_92f84_59 trivial rfl
set_option maxRecDepth 20000 in
theorem c_AL_grow0 {i : Nat} {m : Int32} (ha : G.length = a) (ht : T.length = t) (he : T[i]? = some (.inr (12, [.int m, .retAddr (j_a0 D), .int 0]))) : Cn l D ad tc L xs mJx4a65c_grow_d5877 2 120 [.ref (a + i + 1)] (G ++ T, sl) (some (.ref (a + t + 1))) (G ++ (T.set i (.inr (12, [.int m, .ref (a + t + 1), .int 0])) ++ [oAL (fun _ => none)]), sl + 10) := by
  refine cn_of (lv0 := [(0, .ref (a + i + 1))]) (by decide +kernel) ⟨_, rfl, Or.inr ⟨_, rfl⟩⟩ (fun _ => by simp [lg_sl, j_v, Value.category]) (fun _ => rfl) ?_
  refine rn_aload_n dJx4a65c_grow_d5877_0 rfl ?_
  refine rn_aload_n dJx4a65c_grow_d5877_1 rfl ?_
  refine rnT_get ha dJx4a65c_grow_d5877_2 fo_Jx4a65c_48 he rfl ?_
  refine rn_iconst (v := 1) dJx4a65c_grow_d5877_5 rfl ?_
  refine rn_iadd dJx4a65c_grow_d5877_6 ?_
  refine rn_topi (y := 1) (by decide) ?_
  refine rn_callV dJx4a65c_grow_d5877_7 cv_Jx4a65c_69 (c_AL_grow1 ha ht he) rfl (gt_at ha he) rfl rfl (by decide) (by decide) rfl (Nat.le_of_ble_eq_true rfl) ?_
  exact rn_ret dJx4a65c_grow_d5877_10 trivial rfl
set_option maxRecDepth 20000 in
theorem c_AL_add3 {i v m2 : Nat} {m : Int32} {f : Nat → Int32} (ha : G.length = a) (ht : T.length = t) (he : T[i]? = some (.inr (12, [.int m, .retAddr (j_a0 D), .int 0]))) (hv : T[v]? = some (.inl (0, m2, .inl f))) : Cn l D ad tc L xs mJx4a65c_add_72be8 3 200 [.ref (a + i + 1), .ref (a + v + 1), .retAddr (j_a0 D), .int 0] (G ++ T, sl) none (G ++ (T.set i (.inr (12, [.int m, .ref (a + t + 1), .int 1])) ++ [oAL (va_up (fun _ => none) 0 (some (a + v + 1)))]), sl + 10) := by
  refine cn_of (lv0 := [(0, .ref (a + i + 1)), (1, .ref (a + v + 1)), (2, .retAddr (j_a0 D)), (3, .int 0)]) (by decide +kernel) rfl (fun _ => by simp [lg_sl, j_v, Value.category]) (fun _ => rfl) ?_
  have hne := iv_ne he hv
  have hz : (T.set i (.inr (12, [.int m, .ref (a + t + 1), .int 0]))).length = t := by rw [List.length_set, ht]
  refine rn_iload_n dJx4a65c_add_72be8_0 rfl ?_
  refine rn_aload_nS dJx4a65c_add_72be8_1 rfl ?_
  refine rn_alenAL dJx4a65c_add_72be8_2 ?_
  refine rn_icmp_ne (tgt := 11) dJx4a65c_add_72be8_3 rfl (fun q => absurd rfl q) (fun _ => ?_)
  refine rn_aload_n dJx4a65c_add_72be8_6 rfl ?_
  refine rn_callV dJx4a65c_add_72be8_7 cv_Jx4a65c_129 (c_AL_grow0 ha ht he) rfl (gt_at ha he) rfl rfl (by decide) (by decide) rfl (Nat.le_of_ble_eq_true rfl) ?_
  refine rn_astore_n dJx4a65c_add_72be8_10 (by decide) rfl ?_
  refine rn_aload_n dJx4a65c_add_72be8_11 rfl ?_
  refine rn_iload_n dJx4a65c_add_72be8_12 rfl ?_
  refine rn_aload_n dJx4a65c_add_72be8_13 rfl ?_
  refine rn_aastoreI dJx4a65c_add_72be8_14 (gt_at ha (lat_last hz)) (gt_at ha (lat_app (lat_ne hv hne))) (by unfold vp_in; decide) ?_
  refine rn_h (h2 := (G ++ (T.set i (.inr (12, [.int m, .ref (a + t + 1), .int 0])) ++ [oAL (va_up (fun _ => none) 0 (some (a + v + 1)))]), sl + 10)) (by rw [gt_set ha, set_lastL hz]; rfl) ?_
  refine rn_aload_n dJx4a65c_add_72be8_15 rfl ?_
  refine rn_iload_n dJx4a65c_add_72be8_16 rfl ?_
  refine rn_iconst (v := 1) dJx4a65c_add_72be8_17 rfl ?_
  refine rn_iadd dJx4a65c_add_72be8_18 ?_
  refine rn_topi (y := 1) (by decide) ?_
  refine rnT_put ha dJx4a65c_add_72be8_19 fp_Jx4a65c_48 (lat_app (lat_set he)) (by simp) (fun _ => ⟨rfl, rfl⟩) (Or.inr ⟨_, _, _, rfl, rfl⟩) ?_
  refine rn_h (h2 := (G ++ (T.set i (.inr (12, [.int m, .ref (a + t + 1), .int 1])) ++ [oAL (va_up (fun _ => none) 0 (some (a + v + 1)))]), sl + 10)) (by rw [set_app (lat_set he), set_set]; rfl) ?_
  exact rn_ret dJx4a65c_add_72be8_22 trivial rfl
set_option maxRecDepth 20000 in
theorem c_AL_add {i v m2 : Nat} {f : Nat → Int32} (ha : G.length = a) (ht : T.length = t) (he : T[i]? = some (eAL (j_a0 D))) (hv : T[v]? = some (.inl (0, m2, .inl f))) : Cn l D ad tc L xs mJx4a65c_add_9ea2d 4 300 [.ref (a + i + 1), .ref (a + v + 1)] (G ++ T, sl) (some (.int 1)) (G ++ (T.set i (.inr (12, [.int 1, .ref (a + t + 1), .int 1])) ++ [oAL (va_up (fun _ => none) 0 (some (a + v + 1)))]), sl + 10) := by
  refine cn_of (lv0 := [(0, .ref (a + i + 1)), (1, .ref (a + v + 1))]) (by decide +kernel) ⟨_, rfl, rfl⟩ (fun _ => by simp [lg_sl, j_v, Value.category]) (fun _ => rfl) ?_
  have hne := iv_ne he hv
  have he1 : (T.set i (.inr (12, [.int 1, .retAddr (j_a0 D), .int 0])))[i]? = some (.inr (12, [.int 1, .retAddr (j_a0 D), .int 0])) := lat_set he
  have hz : (T.set i (.inr (12, [.int 1, .retAddr (j_a0 D), .int 0]))).length = t := by rw [List.length_set, ht]
  refine rn_aload_n dJx4a65c_add_9ea2d_0 rfl ?_
  refine rn_dup dJx4a65c_add_9ea2d_1 rfl ?_
  refine rnT_get ha dJx4a65c_add_9ea2d_2 fo_Jx4a65c_63 he rfl ?_
  refine rn_iconst (v := 1) dJx4a65c_add_9ea2d_5 rfl ?_
  refine rn_iadd dJx4a65c_add_9ea2d_6 ?_
  refine rn_topi (y := 1) (by decide) ?_
  refine rnT_put ha dJx4a65c_add_9ea2d_7 fp_Jx4a65c_63 he (by simp) (fun _ => ⟨rfl, rfl⟩) (Or.inr ⟨_, _, _, rfl, rfl⟩) ?_
  refine rn_h (h2 := (G ++ T.set i (.inr (12, [.int 1, .retAddr (j_a0 D), .int 0])), sl)) rfl ?_
  refine rn_aload_n dJx4a65c_add_9ea2d_10 rfl ?_
  refine rn_aload_n dJx4a65c_add_9ea2d_11 rfl ?_
  refine rn_aload_n dJx4a65c_add_9ea2d_12 rfl ?_
  refine rnT_get ha dJx4a65c_add_9ea2d_13 fo_Jx4a65c_9 he1 rfl ?_
  refine rn_aload_n dJx4a65c_add_9ea2d_16 rfl ?_
  refine rnT_get ha dJx4a65c_add_9ea2d_17 fo_Jx4a65c_48 he1 rfl ?_
  refine rn_callV dJx4a65c_add_9ea2d_20 cv_Jx4a65c_131 (c_AL_add3 ha hz he1 (lat_ne hv hne)) rfl (gt_at ha he1) rfl rfl (by decide) (by decide) rfl (Nat.le_of_ble_eq_true rfl) ?_
  refine rn_h (h2 := (G ++ (T.set i (.inr (12, [.int 1, .ref (a + t + 1), .int 1])) ++ [oAL (va_up (fun _ => none) 0 (some (a + v + 1)))]), sl + 10)) (by rw [set_set]) ?_
  refine rn_iconst (v := 1) dJx4a65c_add_9ea2d_23 rfl ?_
  exact rn_ret dJx4a65c_add_9ea2d_24 trivial rfl
set_option maxRecDepth 20000 in
theorem c_AL_add3b {i v m2 w : Nat} {f : Nat → Int32} {F : Nat → Option Nat} (ha : G.length = a) (he : T[i]? = some (.inr (12, [.int 2, .ref (a + w + 1), .int 1]))) (hw : T[w]? = some (oAL F)) (hv : T[v]? = some (.inl (0, m2, .inl f))) : Cn l D ad tc L xs mJx4a65c_add_72be8 3 200 [.ref (a + i + 1), .ref (a + v + 1), .ref (a + w + 1), .int 1] (G ++ T, sl) none (G ++ ((T.set w (oAL (va_up F 1 (some (a + v + 1))))).set i (.inr (12, [.int 2, .ref (a + w + 1), .int 2]))), sl) := by
  refine cn_of (lv0 := [(0, .ref (a + i + 1)), (1, .ref (a + v + 1)), (2, .ref (a + w + 1)), (3, .int 1)]) (by decide +kernel) rfl (fun _ => by simp [lg_sl, j_v, Value.category]) (fun _ => rfl) ?_
  have hiw : w ≠ i := fun e => by rw [e, he] at hw; cases hw
  refine rn_iload_n dJx4a65c_add_72be8_0 rfl ?_
  refine rn_aload_n dJx4a65c_add_72be8_1 rfl ?_
  refine rn_alen (v := 10) dJx4a65c_add_72be8_2 (gt_at ha hw) (show j_ty[9]? = some (.object "java/lang/Object") from rfl) (show Int32.ofNat 10 = 10 from rfl) ?_
  refine rn_icmp_ne (tgt := 11) dJx4a65c_add_72be8_3 rfl (fun _ => ?_) (fun q => absurd q (by decide))
  refine rn_aload_n dJx4a65c_add_72be8_11 rfl ?_
  refine rn_iload_n dJx4a65c_add_72be8_12 rfl ?_
  refine rn_aload_n dJx4a65c_add_72be8_13 rfl ?_
  refine rn_aastoreI dJx4a65c_add_72be8_14 (gt_at ha hw) (gt_at ha hv) (by unfold vp_in; decide) ?_
  refine rn_h (h2 := (G ++ T.set w (oAL (va_up F 1 (some (a + v + 1)))), sl)) (by rw [gt_set ha]; rfl) ?_
  refine rn_aload_n dJx4a65c_add_72be8_15 rfl ?_
  refine rn_iload_n dJx4a65c_add_72be8_16 rfl ?_
  refine rn_iconst (v := 1) dJx4a65c_add_72be8_17 rfl ?_
  refine rn_iadd dJx4a65c_add_72be8_18 ?_
  refine rn_topi (y := 2) (by decide) ?_
  refine rnT_put ha dJx4a65c_add_72be8_19 fp_Jx4a65c_48 (lat_ne he hiw) (by simp) (fun _ => ⟨rfl, rfl⟩) (Or.inr ⟨_, _, _, rfl, rfl⟩) ?_
  exact rn_ret dJx4a65c_add_72be8_22 trivial rfl
set_option maxRecDepth 20000 in
theorem c_AL_addb {i v m2 w : Nat} {f : Nat → Int32} {F : Nat → Option Nat} (ha : G.length = a) (he : T[i]? = some (.inr (12, [.int 1, .ref (a + w + 1), .int 1]))) (hw : T[w]? = some (oAL F)) (hv : T[v]? = some (.inl (0, m2, .inl f))) : Cn l D ad tc L xs mJx4a65c_add_9ea2d 4 300 [.ref (a + i + 1), .ref (a + v + 1)] (G ++ T, sl) (some (.int 1)) (G ++ (((T.set i (.inr (12, [.int 2, .ref (a + w + 1), .int 1]))).set w (oAL (va_up F 1 (some (a + v + 1))))).set i (.inr (12, [.int 2, .ref (a + w + 1), .int 2]))), sl) := by
  refine cn_of (lv0 := [(0, .ref (a + i + 1)), (1, .ref (a + v + 1))]) (by decide +kernel) ⟨_, rfl, rfl⟩ (fun _ => by simp [lg_sl, j_v, Value.category]) (fun _ => rfl) ?_
  have hne := iv_ne he hv
  have hiw : i ≠ w := fun e => by rw [← e, he] at hw; cases hw
  have he1 : (T.set i (.inr (12, [.int 2, .ref (a + w + 1), .int 1])))[i]? = some (.inr (12, [.int 2, .ref (a + w + 1), .int 1])) := lat_set he
  refine rn_aload_n dJx4a65c_add_9ea2d_0 rfl ?_
  refine rn_dup dJx4a65c_add_9ea2d_1 rfl ?_
  refine rnT_get ha dJx4a65c_add_9ea2d_2 fo_Jx4a65c_63 he rfl ?_
  refine rn_iconst (v := 1) dJx4a65c_add_9ea2d_5 rfl ?_
  refine rn_iadd dJx4a65c_add_9ea2d_6 ?_
  refine rn_topi (y := 2) (by decide) ?_
  refine rnT_put ha dJx4a65c_add_9ea2d_7 fp_Jx4a65c_63 he (by simp) (fun _ => ⟨rfl, rfl⟩) (Or.inr ⟨_, _, _, rfl, rfl⟩) ?_
  refine rn_h (h2 := (G ++ T.set i (.inr (12, [.int 2, .ref (a + w + 1), .int 1])), sl)) rfl ?_
  refine rn_aload_n dJx4a65c_add_9ea2d_10 rfl ?_
  refine rn_aload_n dJx4a65c_add_9ea2d_11 rfl ?_
  refine rn_aload_n dJx4a65c_add_9ea2d_12 rfl ?_
  refine rnT_get ha dJx4a65c_add_9ea2d_13 fo_Jx4a65c_9 he1 rfl ?_
  refine rn_aload_n dJx4a65c_add_9ea2d_16 rfl ?_
  refine rnT_get ha dJx4a65c_add_9ea2d_17 fo_Jx4a65c_48 he1 rfl ?_
  refine rn_callV dJx4a65c_add_9ea2d_20 cv_Jx4a65c_131 (c_AL_add3b ha he1 (lat_ne hw hiw) (lat_ne hv hne)) rfl (gt_at ha he1) rfl rfl (by decide) (by decide) rfl (Nat.le_of_ble_eq_true rfl) ?_
  refine rn_iconst (v := 1) dJx4a65c_add_9ea2d_23 rfl ?_
  exact rn_ret dJx4a65c_add_9ea2d_24 trivial rfl
set_option maxRecDepth 20000 in
theorem c_It_init {i : Nat} {m s : Int32} {e : Value} (ha : G.length = a) (he : G[i]? = some (.inr (12, [.int m, e, .int s]))) : Cn l D ad tc L xs mJx35411_init_45d68 1 20 [.ref (a + 0 + 1), .ref (i + 1)] (G ++ [.inr (13, [.int 0, .int 0, .int 0, .null])], sl) none (G ++ [.inr (13, [.int 0, .int (-1), .int m, .ref (i + 1)])], sl) := by
  refine cn_of (lv0 := [(0, .ref (a + 0 + 1)), (1, .ref (i + 1))]) (by decide +kernel) rfl (fun _ => by simp [lg_sl, j_v, Value.category]) (fun _ => rfl) ?_
  refine rn_aload_n dJx35411_init_45d68_0 rfl ?_
  refine rn_aload_n dJx35411_init_45d68_1 rfl ?_
  refine rnT_put (i := 0) ha dJx35411_init_45d68_2 fp_Jx35411_1 rfl (by simp) (fun _ => ⟨rfl, rfl⟩) (Or.inl rfl) ?_
  refine rn_aload_n dJx35411_init_45d68_5 rfl ?_
  refine rn_objInit dJx35411_init_45d68_6 wd_654 wd_0 wd_1 (by decide) (by decide) (by decide) ?_
  refine rn_aload_n dJx35411_init_45d68_9 rfl ?_
  refine rn_iconst (v := (-1)) dJx35411_init_45d68_10 rfl ?_
  refine rnT_put (i := 0) ha dJx35411_init_45d68_11 fp_Jx35411_13 rfl (by simp) (fun _ => ⟨rfl, rfl⟩) (Or.inl rfl) ?_
  refine rn_aload_n dJx35411_init_45d68_14 rfl ?_
  refine rn_aload_n dJx35411_init_45d68_15 rfl ?_
  refine rnT_get (i := 0) ha dJx35411_init_45d68_16 fo_Jx35411_1 rfl rfl ?_
  refine rn_getfield dJx35411_init_45d68_19 fo_Jx35411_17 (lat_app he) rfl ?_
  refine rnT_put (i := 0) ha dJx35411_init_45d68_22 fp_Jx35411_22 rfl (by simp) (fun _ => ⟨rfl, rfl⟩) (Or.inl rfl) ?_
  exact rn_ret dJx35411_init_45d68_25 trivial rfl
set_option maxRecDepth 20000 in
theorem c_AL_iterator {i : Nat} {m s : Int32} {e : Value} (ha : G.length = a) (he : G[i]? = some (.inr (12, [.int m, e, .int s]))) : Cn l D ad tc L xs mJx4a65c_iterator_32c93 2 41 [.ref (i + 1)] (G, sl) (some (.ref (a + 0 + 1))) (G ++ [.inr (13, [.int 0, .int (-1), .int m, .ref (i + 1)])], sl + 4) := by
  refine cn_of (lv0 := [(0, .ref (i + 1))]) (by decide +kernel) ⟨_, rfl, Or.inl ⟨_, rfl⟩⟩ (fun _ => by simp [lg_sl, j_v, Value.category]) (fun _ => rfl) ?_
  refine rn_new dJx4a65c_iterator_32c93_0 no_Jx4a65c_267 ?_
  rw [show ((G, sl) : j_H).1.length = a from ha]
  refine rn_dup dJx4a65c_iterator_32c93_3 rfl ?_
  refine rn_aload_n dJx4a65c_iterator_32c93_4 rfl ?_
  refine rn_callI dJx4a65c_iterator_32c93_5 ci_Jx4a65c_269 (c_It_init ha he) rfl (by decide) (by decide) rfl (Nat.le_of_ble_eq_true rfl) ?_
  exact rn_ret dJx4a65c_iterator_32c93_8 trivial rfl
set_option maxRecDepth 20000 in
theorem c_hasNext0 {x i : Nat} {m k : Int32} {e : Value} (hx : h.1[x]? = some (.inr (13, [.int 0, .int k, .int m, .ref (i + 1)]))) (he : h.1[i]? = some (.inr (12, [.int m, e, .int 0]))) : Cn l D ad tc L xs mHN 0 0 [.ref (x + 1)] h (some (.int 0)) h := by
  refine cn_of (lv0 := [(0, .ref (x + 1))]) (by decide +kernel) ⟨_, rfl, rfl⟩ (fun _ => by simp [lg_sl, j_v, Value.category, mHN]) (fun _ => rfl) ?_
  refine rn_aload_n dJx35411_hasNext_aae02_0 rfl ?_
  refine rn_getfield dJx35411_hasNext_aae02_1 fo_Jx35411_25 hx rfl ?_
  refine rn_aload_n dJx35411_hasNext_aae02_4 rfl ?_
  refine rn_getfield dJx35411_hasNext_aae02_5 fo_Jx35411_1 hx rfl ?_
  refine rn_getfieldN dJx35411_hasNext_aae02_8 fon_Jx35411_28 he rfl ?_
  refine rn_icmp_eq (tgt := 18) dJx35411_hasNext_aae02_11 rfl (fun _ => ?_) (fun q => absurd rfl q)
  refine rn_iconst (v := 0) dJx35411_hasNext_aae02_18 rfl ?_
  exact rn_ret dJx35411_hasNext_aae02_19 trivial rfl
end R1
def i88 : Nat → Int32 := upd (upd (fun _ => 0) 0 8) 1 8
/-- the cells of a fresh reference, from the cell 84 on: th thrown, sg signed, rf refused -/
def mdl (a0 : Nat) (th sg rf : Int32) : List j_C := [.inr (11, [.int th, .ref 86, .ref 87, .ref 88, .ref 89, .int sg, .int rf]), eAL a0, .inr (12, [.int 1, .ref 91, .int 1]), eAL a0, eAL a0, .inl (0, 2, .inl i88), oAL (va_up (fun _ => none) 0 (some 90))]
section R2
variable {l : Launch} {D : va_G} {ad : Nat → Nat} {tc : Nat → ClassId} {L : Nat} {xs : Nat → Int32} {G : List j_C} {sl : Nat}
set_option maxRecDepth 20000 in
theorem c_X11_init (hG : G.length = 84) : Cn l D ad tc L xs mX11_init 5 400 [.ref 85] (G ++ [.inr (11, [.int 0, .null, .null, .null, .null, .int 0, .int 0])], sl) none (G ++ mdl (j_a0 D) 0 0 0, sl + 3 + 3 + 3 + 3 + 2 + 10) := by
  refine cn_of (lv0 := [(0, .ref 85)]) (by decide +kernel) rfl (fun _ => by simp [lg_sl, j_v, Value.category]) (fun _ => rfl) ?_
  refine rn_aload_n dX11_init_0 rfl ?_
  refine rn_objInit dX11_init_1 wd_547 wd_0 wd_1 (by decide) (by decide) (by decide) ?_
  refine rn_aload_n dX11_init_4 rfl ?_
  refine rnT_new (t := 1) hG rfl dX11_init_5 no_X11_7 ?_
  refine rn_dup dX11_init_8 rfl ?_
  refine rn_h (h2 := ((G ++ [.inr (11, [.int 0, .null, .null, .null, .null, .int 0, .int 0])]) ++ [.inr (12, [.int 0, .null, .int 0])], sl + 3)) (by rw [List.append_assoc]; rfl) ?_
  refine rn_callI dX11_init_9 ci_X11_9 (c_AL_init (a := 85) (by rw [List.length_append, hG]; rfl)) rfl (by decide) (by decide) rfl (Nat.le_of_ble_eq_true rfl) ?_
  refine rn_h (h2 := (G ++ [.inr (11, [.int 0, .null, .null, .null, .null, .int 0, .int 0]), eAL (j_a0 D)], sl + 3)) (by rw [List.append_assoc]; rfl) ?_
  refine rnT_put (i := 0) hG dX11_init_12 fp_X11_10 rfl (by simp) (fun _ => ⟨rfl, rfl⟩) (Or.inl rfl) ?_
  refine rn_h (h2 := (G ++ [.inr (11, [.int 0, .ref 86, .null, .null, .null, .int 0, .int 0]), eAL (j_a0 D)], sl + 3)) rfl ?_
  refine rn_aload_n dX11_init_15 rfl ?_
  refine rnT_new (t := 2) hG rfl dX11_init_16 no_X11_7 ?_
  refine rn_dup dX11_init_19 rfl ?_
  refine rn_h (h2 := ((G ++ [.inr (11, [.int 0, .ref 86, .null, .null, .null, .int 0, .int 0]), eAL (j_a0 D)]) ++ [.inr (12, [.int 0, .null, .int 0])], sl + 3 + 3)) (by rw [List.append_assoc]; rfl) ?_
  refine rn_callI dX11_init_20 ci_X11_9 (c_AL_init (a := 86) (by rw [List.length_append, hG]; rfl)) rfl (by decide) (by decide) rfl (Nat.le_of_ble_eq_true rfl) ?_
  refine rn_h (h2 := (G ++ [.inr (11, [.int 0, .ref 86, .null, .null, .null, .int 0, .int 0]), eAL (j_a0 D), eAL (j_a0 D)], sl + 3 + 3)) (by rw [List.append_assoc]; rfl) ?_
  refine rnT_put (i := 0) hG dX11_init_23 fp_X11_16 rfl (by simp) (fun _ => ⟨rfl, rfl⟩) (Or.inl rfl) ?_
  refine rn_h (h2 := (G ++ [.inr (11, [.int 0, .ref 86, .ref 87, .null, .null, .int 0, .int 0]), eAL (j_a0 D), eAL (j_a0 D)], sl + 3 + 3)) rfl ?_
  refine rn_aload_n dX11_init_26 rfl ?_
  refine rnT_new (t := 3) hG rfl dX11_init_27 no_X11_7 ?_
  refine rn_dup dX11_init_30 rfl ?_
  refine rn_h (h2 := ((G ++ [.inr (11, [.int 0, .ref 86, .ref 87, .null, .null, .int 0, .int 0]), eAL (j_a0 D), eAL (j_a0 D)]) ++ [.inr (12, [.int 0, .null, .int 0])], sl + 3 + 3 + 3)) (by rw [List.append_assoc]; rfl) ?_
  refine rn_callI dX11_init_31 ci_X11_9 (c_AL_init (a := 87) (by rw [List.length_append, hG]; rfl)) rfl (by decide) (by decide) rfl (Nat.le_of_ble_eq_true rfl) ?_
  refine rn_h (h2 := (G ++ [.inr (11, [.int 0, .ref 86, .ref 87, .null, .null, .int 0, .int 0]), eAL (j_a0 D), eAL (j_a0 D), eAL (j_a0 D)], sl + 3 + 3 + 3)) (by rw [List.append_assoc]; rfl) ?_
  refine rnT_put (i := 0) hG dX11_init_34 fp_X11_19 rfl (by simp) (fun _ => ⟨rfl, rfl⟩) (Or.inl rfl) ?_
  refine rn_h (h2 := (G ++ [.inr (11, [.int 0, .ref 86, .ref 87, .ref 88, .null, .int 0, .int 0]), eAL (j_a0 D), eAL (j_a0 D), eAL (j_a0 D)], sl + 3 + 3 + 3)) rfl ?_
  refine rn_aload_n dX11_init_37 rfl ?_
  refine rnT_new (t := 4) hG rfl dX11_init_38 no_X11_7 ?_
  refine rn_dup dX11_init_41 rfl ?_
  refine rn_h (h2 := ((G ++ [.inr (11, [.int 0, .ref 86, .ref 87, .ref 88, .null, .int 0, .int 0]), eAL (j_a0 D), eAL (j_a0 D), eAL (j_a0 D)]) ++ [.inr (12, [.int 0, .null, .int 0])], sl + 3 + 3 + 3 + 3)) (by rw [List.append_assoc]; rfl) ?_
  refine rn_callI dX11_init_42 ci_X11_9 (c_AL_init (a := 88) (by rw [List.length_append, hG]; rfl)) rfl (by decide) (by decide) rfl (Nat.le_of_ble_eq_true rfl) ?_
  refine rn_h (h2 := (G ++ [.inr (11, [.int 0, .ref 86, .ref 87, .ref 88, .null, .int 0, .int 0]), eAL (j_a0 D), eAL (j_a0 D), eAL (j_a0 D), eAL (j_a0 D)], sl + 3 + 3 + 3 + 3)) (by rw [List.append_assoc]; rfl) ?_
  refine rnT_put (i := 0) hG dX11_init_45 fp_X11_22 rfl (by simp) (fun _ => ⟨rfl, rfl⟩) (Or.inl rfl) ?_
  refine rn_h (h2 := (G ++ [.inr (11, [.int 0, .ref 86, .ref 87, .ref 88, .ref 89, .int 0, .int 0]), eAL (j_a0 D), eAL (j_a0 D), eAL (j_a0 D), eAL (j_a0 D)], sl + 3 + 3 + 3 + 3)) rfl ?_
  refine rn_aload_n dX11_init_48 rfl ?_
  refine rnT_get (i := 0) hG dX11_init_49 fo_X11_16 rfl rfl ?_
  refine rn_iconst (v := 2) dX11_init_52 rfl ?_
  refine rnT_newarr (t := 0) (N := 2) (u := 5) (f := (2, .inl (fun _ => 0))) hG rfl dX11_init_53 rfl wd_210 (by decide) (by decide) (by decide) (fun _ => rfl) (fun _ _ => rfl) ?_
  refine rn_h (h2 := (G ++ [.inr (11, [.int 0, .ref 86, .ref 87, .ref 88, .ref 89, .int 0, .int 0]), eAL (j_a0 D), eAL (j_a0 D), eAL (j_a0 D), eAL (j_a0 D), .inl (0, 2, .inl (fun _ => 0))], sl + 3 + 3 + 3 + 3 + 2)) rfl ?_
  refine rn_dup dX11_init_55 rfl ?_
  refine rn_iconst (v := 0) dX11_init_56 rfl ?_
  refine rn_bipush (v := 8) dX11_init_57 rfl ?_
  refine rnT_iastore (i := 5) hG dX11_init_59 rfl rfl (by unfold vp_in; decide) ?_
  refine rn_dup dX11_init_60 rfl ?_
  refine rn_iconst (v := 1) dX11_init_61 rfl ?_
  refine rn_bipush (v := 8) dX11_init_62 rfl ?_
  refine rnT_iastore (i := 5) hG dX11_init_64 rfl rfl (by unfold vp_in; decide) ?_
  refine rn_h (h2 := (G ++ [.inr (11, [.int 0, .ref 86, .ref 87, .ref 88, .ref 89, .int 0, .int 0]), eAL (j_a0 D), eAL (j_a0 D), eAL (j_a0 D), eAL (j_a0 D), .inl (0, 2, .inl i88)], sl + 3 + 3 + 3 + 3 + 2)) rfl ?_
  refine rn_callV dX11_init_65 cv_X11_25 (c_AL_add (i := 2) (v := 5) (t := 6) hG rfl rfl rfl) rfl (gt_at (i := 2) hG rfl) rfl rfl (by decide) (by decide) rfl (Nat.le_of_ble_eq_true rfl) ?_
  refine rn_pop dX11_init_68 rfl ?_
  refine rn_h (h2 := (G ++ mdl (j_a0 D) 0 0 0, sl + 3 + 3 + 3 + 3 + 2 + 10)) rfl ?_
  exact rn_ret dX11_init_69 trivial rfl
end R2
