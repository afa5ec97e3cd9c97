/-! the law, case by case -/
section LB
variable {l : Launch} {D : va_G} {ad : Nat → Nat} {tc : Nat → ClassId} {L : Nat} {xs : Nat → Int32} {G U : List j_C} {S : jS} {E : List j_C} {sl u : Nat} {a b c t : Int32}
theorem x_exc_to2 (eb : b = -1) (hl : l.stackTraces = false) (hF : Fr S) (hc : ¬ c = -1) : Cx l D ad tc L xs mX9_exception 20 1000 [.ref 1, .int a, .int b, .int c] (wd S E, sl) 1 := by
  rw [eb]
  exact x_exc_to hl hF hc
theorem x_exc_sort2 (eb : b = -1) (ec : c = -1) (hl : l.stackTraces = false) (hF : Fr S) (h0 : ¬ a = 0) (hk : ¬ (2 ≤ a ∧ a ≤ 4)) : Cx l D ad tc L xs mX9_exception 20 1000 [.ref 1, .int a, .int b, .int c] (wd S E, sl) 2 := by
  rw [eb, ec]
  exact x_exc_sort hl hF h0 hk
theorem c_X11_exc_to2 (eb : b = -1) (hG : G.length = 84) (hU : U.length = u) (hc : ¬ c = -1) : Cn l D ad tc L xs mX11_exception 6 500 [.ref 85, .int a, .int b, .int c] (G ++ (mdl (j_a0 D) t 0 0 ++ U), sl) (some (.int 0)) (G ++ (mdl (j_a0 D) 2 0 0 ++ U), sl) := by
  rw [eb]
  exact c_X11_exc_to (b := b) hG hU hc
theorem c_X11_exc_sort2 (eb : b = -1) (ec : c = -1) (hG : G.length = 84) (hU : U.length = u) (h0 : ¬ a = 0) (hk : ¬ (2 ≤ a ∧ a ≤ 4)) : Cn l D ad tc L xs mX11_exception 6 500 [.ref 85, .int a, .int b, .int c] (G ++ (mdl (j_a0 D) t 0 0 ++ U), sl) (some (.int 0)) (G ++ (mdl (j_a0 D) 3 0 0 ++ U), sl) := by
  rw [eb, ec]
  exact c_X11_exc_sort (b := b) (c := c) hG hU h0 hk
theorem c_X11_exc_n2 (eb : b = -1) (ec : c = -1) (hG : G.length = 84) (hU : U.length = u) (h0 : ¬ a = 0) (hk : 2 ≤ a ∧ a ≤ 4) : Cn l D ad tc L xs mX11_exception 6 500 [.ref 85, .int a, .int b, .int c] (G ++ (mdl (j_a0 D) t 0 0 ++ U), sl) (some (.int 0)) (G ++ (((mdl (j_a0 D) 0 0 0 ++ U) ++ [ia 3 (upd (upd (upd (fun _ => 0) 0 a) 1 (-1)) 2 (-1))]).set 4 (cAL 1 (84 + (7 + u + 1) + 1) 1) ++ [oAL (va_up (fun _ => none) 0 (some (84 + (7 + u) + 1)))]), sl + 3 + 10) := by
  rw [eb, ec]
  exact c_X11_exc_n (b := b) (c := c) hG hU h0 hk
theorem c_X11_exc_02 (eb : b = -1) (ec : c = -1) (e0 : a = 0) (hG : G.length = 84) (hU : U.length = u) : Cn l D ad tc L xs mX11_exception 6 500 [.ref 85, .int a, .int b, .int c] (G ++ (mdl (j_a0 D) t 0 0 ++ U), sl) (some (.int 0)) (G ++ (((mdl (j_a0 D) 0 0 0 ++ U) ++ [ia 3 (upd (upd (upd (fun _ => 0) 0 0) 1 (-1)) 2 (-1))]).set 4 (cAL 1 (84 + (7 + u + 1) + 1) 1) ++ [oAL (va_up (fun _ => none) 0 (some (84 + (7 + u) + 1)))]), sl + 3 + 10) := by
  rw [eb, ec, e0]
  exact c_X11_exc_0 (a := a) (b := b) (c := c) hG hU
theorem c_X11_many_02 (e : a = 0) (hG : G.length = 84) : Cn l D ad tc L xs mX11_many 3 180 [.ref 85, .int a] (G ++ (mdl (j_a0 D) t 0 0 ++ U), sl) (some (.int 0)) (G ++ (mdl (j_a0 D) 0 0 0 ++ U), sl) := by
  rw [e]
  exact c_X11_many_0 hG
theorem c_X11_many_12 (e : a = 1) (hG : G.length = 84) : Cn l D ad tc L xs mX11_many 3 180 [.ref 85, .int a] (G ++ (mdl (j_a0 D) t 0 0 ++ U), sl) (some (.int 1)) (G ++ (mdl (j_a0 D) 0 0 0 ++ U), sl) := by
  rw [e]
  exact c_X11_many_1 hG
theorem c_X11_many_22 (e : a = 2) (hG : G.length = 84) : Cn l D ad tc L xs mX11_many 3 180 [.ref 85, .int a] (G ++ (mdl (j_a0 D) t 0 0 ++ U), sl) (some (.int 0)) (G ++ (mdl (j_a0 D) 0 0 0 ++ U), sl) := by
  rw [e]
  exact c_X11_many_2 hG
theorem c_X11_many_32 (e : a = 3) (hG : G.length = 84) : Cn l D ad tc L xs mX11_many 3 180 [.ref 85, .int a] (G ++ (mdl (j_a0 D) t 0 0 ++ U), sl) (some (.int 0)) (G ++ (mdl (j_a0 D) 0 0 0 ++ U), sl) := by
  rw [e]
  exact c_X11_many_3 hG
theorem c_X11_many_42 (e : a = 4) (hG : G.length = 84) : Cn l D ad tc L xs mX11_many 3 180 [.ref 85, .int a] (G ++ (mdl (j_a0 D) t 0 0 ++ U), sl) (some (.int 0)) (G ++ (mdl (j_a0 D) 0 0 0 ++ U), sl) := by
  rw [e]
  exact c_X11_many_4 hG
theorem c_X11_many_52 (e : a = 5) (hG : G.length = 84) : Cn l D ad tc L xs mX11_many 3 180 [.ref 85, .int a] (G ++ (mdl (j_a0 D) t 0 0 ++ U), sl) (some (.int 0)) (G ++ (mdl (j_a0 D) 0 0 0 ++ U), sl) := by
  rw [e]
  exact c_X11_many_5 hG
theorem c_X11_many_62 (e : a = 6) (hG : G.length = 84) : Cn l D ad tc L xs mX11_many 3 180 [.ref 85, .int a] (G ++ (mdl (j_a0 D) t 0 0 ++ U), sl) (some (.int 0)) (G ++ (mdl (j_a0 D) 0 0 0 ++ U), sl) := by
  rw [e]
  exact c_X11_many_6 hG
theorem c_X11_many_72 (e : a = 7) (hG : G.length = 84) : Cn l D ad tc L xs mX11_many 3 180 [.ref 85, .int a] (G ++ (mdl (j_a0 D) t 0 0 ++ U), sl) (some (.int 0)) (G ++ (mdl (j_a0 D) 0 0 0 ++ U), sl) := by
  rw [e]
  exact c_X11_many_7 hG
theorem c_X11_many_82 (e : a = 8) (hG : G.length = 84) : Cn l D ad tc L xs mX11_many 3 180 [.ref 85, .int a] (G ++ (mdl (j_a0 D) t 0 0 ++ U), sl) (some (.int 0)) (G ++ (mdl (j_a0 D) 0 0 0 ++ U), sl) := by
  rw [e]
  exact c_X11_many_8 hG
theorem c_X11_many_92 (e : a = 9) (hG : G.length = 84) : Cn l D ad tc L xs mX11_many 3 180 [.ref 85, .int a] (G ++ (mdl (j_a0 D) t 0 0 ++ U), sl) (some (.int 0)) (G ++ (mdl (j_a0 D) 0 0 0 ++ U), sl) := by
  rw [e]
  exact c_X11_many_9 hG
theorem c_X11_many_102 (e : a = 10) (hG : G.length = 84) : Cn l D ad tc L xs mX11_many 3 180 [.ref 85, .int a] (G ++ (mdl (j_a0 D) t 0 0 ++ U), sl) (some (.int 0)) (G ++ (mdl (j_a0 D) 0 0 0 ++ U), sl) := by
  rw [e]
  exact c_X11_many_10 hG
theorem c_X11_isIdle_02 (e : a = 0) (hG : G.length = 84) : Cn l D ad tc L xs mX11_isIdle 6 500 [.ref 85, .int a] (G ++ (mdl (j_a0 D) t 0 0 ++ U), sl) (some (.int 0)) (G ++ (mdl (j_a0 D) 0 0 0 ++ U), sl) := by
  rw [e]
  exact c_X11_isIdle_0 hG
end LB
section LC
variable {l : Launch} {D : va_G} {ad : Nat → Nat} {tc : Nat → ClassId} {xs : Nat → Int32}
set_option maxRecDepth 20000 in
theorem la_0_ok (hl : l.stackTraces = false) (h1 : 4 ≤ xs 1 ∧ xs 1 ≤ 40) (h2 : 0 ≤ xs 2 ∧ xs 2 ≤ 40) (h3 : 0 ≤ xs 3 ∧ xs 3 ≤ 20) (h4 : 0 ≤ xs 4 ∧ xs 4 ≤ 1) : ∃ h' : j_H, (h'.1.length ≤ 400 ∧ h'.2 ≤ 20000) ∧ Rn l D ad tc 6 xs mL_law 200 6000 172 [(5, .int 0), (4, .ref 93), (3, .ref 92), (2, .ref 85), (1, .ref 1), (0, .ref 0)] [] (wd s0 (mdl (j_a0 D) 0 0 0 ++ [ol 0, od 0]), 6544) (some (.int 1)) h' := by
  obtain ⟨S', hc⟩ : ∃ S' : jS, Cn l D ad tc 6 xs mX9_clock 1 26 [.ref 1, .int (xs 1), .int (xs 2), .int (xs 3), .int (xs 4)] (wd s0 (mdl (j_a0 D) 0 0 0 ++ [ol 0, od 0]), 6544) (some (.int 0)) (wd S' (mdl (j_a0 D) 0 0 0 ++ [ol 0, od 0]), 6544) := ⟨_, c_X9_clock (v := 0) rfl rfl (by decide) h1 h2 h3 h4⟩
  refine ⟨(wd S' (((mdl (j_a0 D) 0 0 0 ++ [ol ((0 : Int32).toInt64), od 0]) ++ [ia 5 (upd (upd (upd (upd (upd (fun _ => 0) 0 (xs 1)) 1 (xs 2)) 2 (xs 3)) 3 (xs 4)) 4 0)]).set 1 (cAL 1 (84 + (7 + 2 + 1) + 1) 1) ++ [oAL (va_up (fun _ => none) 0 (some (84 + (7 + 2) + 1)))]), 6544 + 5 + 10), ⟨by simp [wd_len, mdl, lkT], Nat.le_of_ble_eq_true rfl⟩, ?_⟩
  refine rn_aload_n dL_law_172 rfl ?_
  refine rn_aload_n dL_law_173 rfl ?_
  refine rn_iload dL_law_174 rfl ?_
  refine rn_iconst (v := 1) dL_law_176 rfl ?_
  refine rn_iadd dL_law_177 ?_
  refine rn_topi (y := 1) (by decide) ?_
  refine rn_sld dL_law_178 (by unfold vp_in; decide) ?_
  refine rn_topi (y := xs 1) rfl ?_
  refine rn_aload_n dL_law_179 rfl ?_
  refine rn_iload dL_law_180 rfl ?_
  refine rn_iconst (v := 2) dL_law_182 rfl ?_
  refine rn_iadd dL_law_183 ?_
  refine rn_topi (y := 2) (by decide) ?_
  refine rn_sld dL_law_184 (by unfold vp_in; decide) ?_
  refine rn_topi (y := xs 2) rfl ?_
  refine rn_aload_n dL_law_185 rfl ?_
  refine rn_iload dL_law_186 rfl ?_
  refine rn_iconst (v := 3) dL_law_188 rfl ?_
  refine rn_iadd dL_law_189 ?_
  refine rn_topi (y := 3) (by decide) ?_
  refine rn_sld dL_law_190 (by unfold vp_in; decide) ?_
  refine rn_topi (y := xs 3) rfl ?_
  refine rn_aload_n dL_law_191 rfl ?_
  refine rn_iload dL_law_192 rfl ?_
  refine rn_iconst (v := 4) dL_law_194 rfl ?_
  refine rn_iadd dL_law_195 ?_
  refine rn_topi (y := 4) (by decide) ?_
  refine rn_sld dL_law_196 (by unfold vp_in; decide) ?_
  refine rn_topi (y := xs 4) rfl ?_
  refine rn_aload_n dL_law_197 rfl ?_
  refine rn_callSW dL_law_198 csw_L_99 (w_clock_ok (w := 0) rfl hc (by decide) (by decide)) rfl (by decide) (by decide) rfl (Nat.le_of_ble_eq_true rfl) ?_
  refine rn_h (h2 := (wd S' (mdl (j_a0 D) 0 0 0 ++ [ol ((0 : Int32).toInt64), od 0]), 6544)) rfl ?_
  refine rn_istore dL_law_201 (by decide) rfl ?_
  refine rn_aload_n dL_law_203 rfl ?_
  refine rn_aload_n dL_law_204 rfl ?_
  refine rn_iload dL_law_205 rfl ?_
  refine rn_iconst (v := 1) dL_law_207 rfl ?_
  refine rn_iadd dL_law_208 ?_
  refine rn_topi (y := 1) (by decide) ?_
  refine rn_sld dL_law_209 (by unfold vp_in; decide) ?_
  refine rn_topi (y := xs 1) rfl ?_
  refine rn_aload_n dL_law_210 rfl ?_
  refine rn_iload dL_law_211 rfl ?_
  refine rn_iconst (v := 2) dL_law_213 rfl ?_
  refine rn_iadd dL_law_214 ?_
  refine rn_topi (y := 2) (by decide) ?_
  refine rn_sld dL_law_215 (by unfold vp_in; decide) ?_
  refine rn_topi (y := xs 2) rfl ?_
  refine rn_aload_n dL_law_216 rfl ?_
  refine rn_iload dL_law_217 rfl ?_
  refine rn_iconst (v := 3) dL_law_219 rfl ?_
  refine rn_iadd dL_law_220 ?_
  refine rn_topi (y := 3) (by decide) ?_
  refine rn_sld dL_law_221 (by unfold vp_in; decide) ?_
  refine rn_topi (y := xs 3) rfl ?_
  refine rn_aload_n dL_law_222 rfl ?_
  refine rn_iload dL_law_223 rfl ?_
  refine rn_iconst (v := 4) dL_law_225 rfl ?_
  refine rn_iadd dL_law_226 ?_
  refine rn_topi (y := 4) (by decide) ?_
  refine rn_sld dL_law_227 (by unfold vp_in; decide) ?_
  refine rn_topi (y := xs 4) rfl ?_
  refine rn_callV dL_law_228 cv_L_104 (c_X11_clock_ok (G := gW S') (U := [ol ((0 : Int32).toInt64), od 0]) (u := 2) gW_len rfl h1 h2 h3 h4) rfl (wd_E (i := 0) rfl) rfl rfl (by decide) (by decide) rfl (Nat.le_of_ble_eq_true rfl) ?_
  refine rn_h (h2 := (wd S' (((mdl (j_a0 D) 0 0 0 ++ [ol ((0 : Int32).toInt64), od 0]) ++ [ia 5 (upd (upd (upd (upd (upd (fun _ => 0) 0 (xs 1)) 1 (xs 2)) 2 (xs 3)) 3 (xs 4)) 4 0)]).set 1 (cAL 1 (84 + (7 + 2 + 1) + 1) 1) ++ [oAL (va_up (fun _ => none) 0 (some (84 + (7 + 2) + 1)))]), 6544 + 5 + 10)) rfl ?_
  refine rn_istore dL_law_231 (by decide) rfl ?_
  refine rn_aload_n dL_law_233 rfl ?_
  refine rn_callV dL_law_234 cv_L_105 (c_X11_thrown (i := 84) (t := 0) (wd_E (i := 0) rfl)) rfl (wd_E (i := 0) rfl) rfl rfl (by decide) (by decide) rfl (Nat.le_of_ble_eq_true rfl) ?_
  refine rn_iload dL_law_237 rfl ?_
  refine rn_icmp_eq (tgt := 244) dL_law_239 rfl (fun _ => ?_) (fun q => absurd (by decide) q)
  refine rn_iload dL_law_244 rfl ?_
  refine rn_if_ne (tgt := 261) dL_law_246 rfl (fun q => absurd q (by decide)) (fun _ => ?_)
  refine rn_aload_n dL_law_249 rfl ?_
  refine rn_iconst (v := 0) dL_law_250 rfl ?_
  refine rn_laload (a := 84 + 7) dL_law_251 (wd_E (c := ol ((0 : Int32).toInt64)) (i := 7) rfl) rfl (by unfold vp_in; decide) ?_
  refine rn_topl (y := ((0 : Int32).toInt64)) rfl ?_
  refine rn_iload dL_law_252 rfl ?_
  refine rn_i2l dL_law_254 rfl ?_
  refine rn_lcmp dL_law_255 ?_
  refine rn_topi (y := 0) (by decide +kernel) ?_
  refine rn_if_eq (tgt := 261) dL_law_256 rfl (fun _ => ?_) (fun q => absurd (by decide) q)
  refine rn_goto (tgt := 2228) dL_law_261 rfl ?_
  exact law_tail rfl rfl
set_option maxRecDepth 20000 in
theorem la_0_no (hl : l.stackTraces = false) (hne : ¬ ((4 ≤ xs 1 ∧ xs 1 ≤ 40) ∧ (0 ≤ xs 2 ∧ xs 2 ≤ 40) ∧ (0 ≤ xs 3 ∧ xs 3 ≤ 20) ∧ (0 ≤ xs 4 ∧ xs 4 ≤ 1))) : ∃ h' : j_H, (h'.1.length ≤ 400 ∧ h'.2 ≤ 20000) ∧ Rn l D ad tc 6 xs mL_law 200 6000 172 [(5, .int 0), (4, .ref 93), (3, .ref 92), (2, .ref 85), (1, .ref 1), (0, .ref 0)] [] (wd s0 (mdl (j_a0 D) 0 0 0 ++ [ol 0, od 0]), 6544) (some (.int 1)) h' := by
  refine ⟨(wd s0 (mdl (j_a0 D) 2 0 0 ++ [ol 0, od 0, j_x 2]), 6544 + 6), ⟨by simp [wd_len, mdl, lkT], Nat.le_of_ble_eq_true rfl⟩, ?_⟩
  refine rn_aload_n dL_law_172 rfl ?_
  refine rn_aload_n dL_law_173 rfl ?_
  refine rn_iload dL_law_174 rfl ?_
  refine rn_iconst (v := 1) dL_law_176 rfl ?_
  refine rn_iadd dL_law_177 ?_
  refine rn_topi (y := 1) (by decide) ?_
  refine rn_sld dL_law_178 (by unfold vp_in; decide) ?_
  refine rn_topi (y := xs 1) rfl ?_
  refine rn_aload_n dL_law_179 rfl ?_
  refine rn_iload dL_law_180 rfl ?_
  refine rn_iconst (v := 2) dL_law_182 rfl ?_
  refine rn_iadd dL_law_183 ?_
  refine rn_topi (y := 2) (by decide) ?_
  refine rn_sld dL_law_184 (by unfold vp_in; decide) ?_
  refine rn_topi (y := xs 2) rfl ?_
  refine rn_aload_n dL_law_185 rfl ?_
  refine rn_iload dL_law_186 rfl ?_
  refine rn_iconst (v := 3) dL_law_188 rfl ?_
  refine rn_iadd dL_law_189 ?_
  refine rn_topi (y := 3) (by decide) ?_
  refine rn_sld dL_law_190 (by unfold vp_in; decide) ?_
  refine rn_topi (y := xs 3) rfl ?_
  refine rn_aload_n dL_law_191 rfl ?_
  refine rn_iload dL_law_192 rfl ?_
  refine rn_iconst (v := 4) dL_law_194 rfl ?_
  refine rn_iadd dL_law_195 ?_
  refine rn_topi (y := 4) (by decide) ?_
  refine rn_sld dL_law_196 (by unfold vp_in; decide) ?_
  refine rn_topi (y := xs 4) rfl ?_
  refine rn_aload_n dL_law_197 rfl ?_
  refine rn_callSW dL_law_198 csw_L_99 (w_clock_x2 (x_clock hl Fr_0 hne) (by decide) (by decide)) rfl (by decide) (by decide) rfl (Nat.le_of_ble_eq_true rfl) ?_
  refine rn_h (h2 := (wd s0 (mdl (j_a0 D) 0 0 0 ++ [ol 0, od 0, j_x 2]), 6544 + 6)) rfl ?_
  refine rn_istore dL_law_201 (by decide) rfl ?_
  refine rn_aload_n dL_law_203 rfl ?_
  refine rn_aload_n dL_law_204 rfl ?_
  refine rn_iload dL_law_205 rfl ?_
  refine rn_iconst (v := 1) dL_law_207 rfl ?_
  refine rn_iadd dL_law_208 ?_
  refine rn_topi (y := 1) (by decide) ?_
  refine rn_sld dL_law_209 (by unfold vp_in; decide) ?_
  refine rn_topi (y := xs 1) rfl ?_
  refine rn_aload_n dL_law_210 rfl ?_
  refine rn_iload dL_law_211 rfl ?_
  refine rn_iconst (v := 2) dL_law_213 rfl ?_
  refine rn_iadd dL_law_214 ?_
  refine rn_topi (y := 2) (by decide) ?_
  refine rn_sld dL_law_215 (by unfold vp_in; decide) ?_
  refine rn_topi (y := xs 2) rfl ?_
  refine rn_aload_n dL_law_216 rfl ?_
  refine rn_iload dL_law_217 rfl ?_
  refine rn_iconst (v := 3) dL_law_219 rfl ?_
  refine rn_iadd dL_law_220 ?_
  refine rn_topi (y := 3) (by decide) ?_
  refine rn_sld dL_law_221 (by unfold vp_in; decide) ?_
  refine rn_topi (y := xs 3) rfl ?_
  refine rn_aload_n dL_law_222 rfl ?_
  refine rn_iload dL_law_223 rfl ?_
  refine rn_iconst (v := 4) dL_law_225 rfl ?_
  refine rn_iadd dL_law_226 ?_
  refine rn_topi (y := 4) (by decide) ?_
  refine rn_sld dL_law_227 (by unfold vp_in; decide) ?_
  refine rn_topi (y := xs 4) rfl ?_
  refine rn_callV dL_law_228 cv_L_104 (c_X11_clock_no (G := gW s0) (U := [ol 0, od 0, j_x 2]) (u := 3) gW_len rfl hne) rfl (wd_E (i := 0) rfl) rfl rfl (by decide) (by decide) rfl (Nat.le_of_ble_eq_true rfl) ?_
  refine rn_h (h2 := (wd s0 (mdl (j_a0 D) 2 0 0 ++ [ol 0, od 0, j_x 2]), 6544 + 6)) rfl ?_
  refine rn_istore dL_law_231 (by decide) rfl ?_
  refine rn_aload_n dL_law_233 rfl ?_
  refine rn_callV dL_law_234 cv_L_105 (c_X11_thrown (i := 84) (t := 2) (wd_E (i := 0) rfl)) rfl (wd_E (i := 0) rfl) rfl rfl (by decide) (by decide) rfl (Nat.le_of_ble_eq_true rfl) ?_
  refine rn_iload dL_law_237 rfl ?_
  refine rn_icmp_eq (tgt := 244) dL_law_239 rfl (fun _ => ?_) (fun q => absurd (by decide) q)
  refine rn_iload dL_law_244 rfl ?_
  refine rn_if_ne (tgt := 261) dL_law_246 rfl (fun _ => ?_) (fun q => absurd q (by decide))
  refine rn_goto (tgt := 2228) dL_law_261 rfl ?_
  exact law_tail rfl rfl
set_option maxRecDepth 20000 in
theorem la_1_no (hl : l.stackTraces = false)  : ∃ h' : j_H, (h'.1.length ≤ 400 ∧ h'.2 ≤ 20000) ∧ Rn l D ad tc 6 xs mL_law 200 6000 264 [(5, .int 0), (4, .ref 93), (3, .ref 92), (2, .ref 85), (1, .ref 1), (0, .ref 0)] [] (wd s0 (mdl (j_a0 D) 0 0 0 ++ [ol 0, od 0]), 6544) (some (.int 1)) h' := by
  refine ⟨(wd s0 (mdl (j_a0 D) 2 0 0 ++ [ol 0, od 0, j_x 1]), 6544 + 6), ⟨by simp [wd_len, mdl, lkT], Nat.le_of_ble_eq_true rfl⟩, ?_⟩
  refine rn_aload_n dL_law_264 rfl ?_
  refine rn_aload_n dL_law_265 rfl ?_
  refine rn_iload dL_law_266 rfl ?_
  refine rn_iconst (v := 1) dL_law_268 rfl ?_
  refine rn_iadd dL_law_269 ?_
  refine rn_topi (y := 1) (by decide) ?_
  refine rn_sld dL_law_270 (by unfold vp_in; decide) ?_
  refine rn_topi (y := xs 1) rfl ?_
  refine rn_aload_n dL_law_271 rfl ?_
  refine rn_iload dL_law_272 rfl ?_
  refine rn_iconst (v := 2) dL_law_274 rfl ?_
  refine rn_iadd dL_law_275 ?_
  refine rn_topi (y := 2) (by decide) ?_
  refine rn_sld dL_law_276 (by unfold vp_in; decide) ?_
  refine rn_topi (y := xs 2) rfl ?_
  refine rn_aload_n dL_law_277 rfl ?_
  refine rn_iload dL_law_278 rfl ?_
  refine rn_iconst (v := 3) dL_law_280 rfl ?_
  refine rn_iadd dL_law_281 ?_
  refine rn_topi (y := 3) (by decide) ?_
  refine rn_sld dL_law_282 (by unfold vp_in; decide) ?_
  refine rn_topi (y := xs 3) rfl ?_
  refine rn_aload_n dL_law_283 rfl ?_
  refine rn_callSW dL_law_284 csw_L_109 (w_divide_x1 (x_divide hl Fr_0) (by decide) (by decide)) rfl (by decide) (by decide) rfl (Nat.le_of_ble_eq_true rfl) ?_
  refine rn_h (h2 := (wd s0 (mdl (j_a0 D) 0 0 0 ++ [ol 0, od 0, j_x 1]), 6544 + 6)) rfl ?_
  refine rn_istore dL_law_287 (by decide) rfl ?_
  refine rn_aload_n dL_law_289 rfl ?_
  refine rn_aload_n dL_law_290 rfl ?_
  refine rn_iload dL_law_291 rfl ?_
  refine rn_iconst (v := 1) dL_law_293 rfl ?_
  refine rn_iadd dL_law_294 ?_
  refine rn_topi (y := 1) (by decide) ?_
  refine rn_sld dL_law_295 (by unfold vp_in; decide) ?_
  refine rn_topi (y := xs 1) rfl ?_
  refine rn_aload_n dL_law_296 rfl ?_
  refine rn_iload dL_law_297 rfl ?_
  refine rn_iconst (v := 2) dL_law_299 rfl ?_
  refine rn_iadd dL_law_300 ?_
  refine rn_topi (y := 2) (by decide) ?_
  refine rn_sld dL_law_301 (by unfold vp_in; decide) ?_
  refine rn_topi (y := xs 2) rfl ?_
  refine rn_aload_n dL_law_302 rfl ?_
  refine rn_iload dL_law_303 rfl ?_
  refine rn_iconst (v := 3) dL_law_305 rfl ?_
  refine rn_iadd dL_law_306 ?_
  refine rn_topi (y := 3) (by decide) ?_
  refine rn_sld dL_law_307 (by unfold vp_in; decide) ?_
  refine rn_topi (y := xs 3) rfl ?_
  refine rn_callV dL_law_308 cv_L_112 (c_X11_divide (G := gW s0) (U := [ol 0, od 0, j_x 1]) (u := 3) gW_len rfl) rfl (wd_E (i := 0) rfl) rfl rfl (by decide) (by decide) rfl (Nat.le_of_ble_eq_true rfl) ?_
  refine rn_h (h2 := (wd s0 (mdl (j_a0 D) 2 0 0 ++ [ol 0, od 0, j_x 1]), 6544 + 6)) rfl ?_
  refine rn_istore dL_law_311 (by decide) rfl ?_
  refine rn_aload_n dL_law_313 rfl ?_
  refine rn_callV dL_law_314 cv_L_105 (c_X11_thrown (i := 84) (t := 2) (wd_E (i := 0) rfl)) rfl (wd_E (i := 0) rfl) rfl rfl (by decide) (by decide) rfl (Nat.le_of_ble_eq_true rfl) ?_
  refine rn_iload dL_law_317 rfl ?_
  refine rn_icmp_eq (tgt := 324) dL_law_319 rfl (fun _ => ?_) (fun q => absurd (by decide) q)
  refine rn_iload dL_law_324 rfl ?_
  refine rn_if_ne (tgt := 341) dL_law_326 rfl (fun _ => ?_) (fun q => absurd q (by decide))
  refine rn_goto (tgt := 2228) dL_law_341 rfl ?_
  exact law_tail rfl rfl
set_option maxRecDepth 20000 in
theorem la_2_ok (hl : l.stackTraces = false) {p q : Nat} (e1 : xs 1 = nI p) (e2 : xs 2 = nI q) (hp : p ≤ 16) (hq : q ≤ 16) (h1 : 8 ≤ xs 1 ∧ xs 1 ≤ 16) (h2 : 1 ≤ xs 2 ∧ xs 2 ≤ 8) : ∃ h' : j_H, (h'.1.length ≤ 400 ∧ h'.2 ≤ 20000) ∧ Rn l D ad tc 6 xs mL_law 200 6000 344 [(5, .int 0), (4, .ref 93), (3, .ref 92), (2, .ref 85), (1, .ref 1), (0, .ref 0)] [] (wd s0 (mdl (j_a0 D) 0 0 0 ++ [ol 0, od 0]), 6544) (some (.int 1)) h' := by
  obtain ⟨S', hc⟩ : ∃ S' : jS, Cn l D ad tc 6 xs mX9_corner 1 22 [.ref 1, .int (xs 1), .int (xs 2)] (wd s0 (mdl (j_a0 D) 0 0 0 ++ [ol 0, od 0]), 6544) (some (.int 1)) (wd S' (mdl (j_a0 D) 0 0 0 ++ [ol 0, od 0]), 6544) := ⟨_, by rw [e1, e2]; exact c_X9_corner (c := 1) (a := p) (b := q) rfl rfl (by decide) hp hq (by rw [← e1]; exact h1) (by rw [← e2]; exact h2)⟩
  refine ⟨(wd S' (((((mdl (j_a0 D) 0 0 0 ++ [ol ((1 : Int32).toInt64), od 0]) ++ [ia 2 (upd (upd (fun _ => 0) 0 (xs 1)) 1 (xs 2))]).set 2 (cAL 2 (84 + 6 + 1) 1)).set 6 (oAL (va_up (va_up (fun _ => none) 0 (some 90)) 1 (some (84 + (7 + 2) + 1))))).set 2 (cAL 2 (84 + 6 + 1) 2)), 6544 + 2), ⟨by simp [wd_len, mdl, lkT], Nat.le_of_ble_eq_true rfl⟩, ?_⟩
  refine rn_aload_n dL_law_344 rfl ?_
  refine rn_aload_n dL_law_345 rfl ?_
  refine rn_iload dL_law_346 rfl ?_
  refine rn_iconst (v := 1) dL_law_348 rfl ?_
  refine rn_iadd dL_law_349 ?_
  refine rn_topi (y := 1) (by decide) ?_
  refine rn_sld dL_law_350 (by unfold vp_in; decide) ?_
  refine rn_topi (y := xs 1) rfl ?_
  refine rn_aload_n dL_law_351 rfl ?_
  refine rn_iload dL_law_352 rfl ?_
  refine rn_iconst (v := 2) dL_law_354 rfl ?_
  refine rn_iadd dL_law_355 ?_
  refine rn_topi (y := 2) (by decide) ?_
  refine rn_sld dL_law_356 (by unfold vp_in; decide) ?_
  refine rn_topi (y := xs 2) rfl ?_
  refine rn_aload_n dL_law_357 rfl ?_
  refine rn_callSW dL_law_358 csw_L_113 (w_corner_ok (w := 0) rfl hc (by decide) (by decide)) rfl (by decide) (by decide) rfl (Nat.le_of_ble_eq_true rfl) ?_
  refine rn_h (h2 := (wd S' (mdl (j_a0 D) 0 0 0 ++ [ol ((1 : Int32).toInt64), od 0]), 6544)) rfl ?_
  refine rn_istore dL_law_361 (by decide) rfl ?_
  refine rn_aload_n dL_law_363 rfl ?_
  refine rn_aload_n dL_law_364 rfl ?_
  refine rn_iload dL_law_365 rfl ?_
  refine rn_iconst (v := 1) dL_law_367 rfl ?_
  refine rn_iadd dL_law_368 ?_
  refine rn_topi (y := 1) (by decide) ?_
  refine rn_sld dL_law_369 (by unfold vp_in; decide) ?_
  refine rn_topi (y := xs 1) rfl ?_
  refine rn_aload_n dL_law_370 rfl ?_
  refine rn_iload dL_law_371 rfl ?_
  refine rn_iconst (v := 2) dL_law_373 rfl ?_
  refine rn_iadd dL_law_374 ?_
  refine rn_topi (y := 2) (by decide) ?_
  refine rn_sld dL_law_375 (by unfold vp_in; decide) ?_
  refine rn_topi (y := xs 2) rfl ?_
  refine rn_callV dL_law_376 cv_L_116 (c_X11_corner_ok (G := gW S') (U := [ol ((1 : Int32).toInt64), od 0]) (u := 2) gW_len rfl h1 h2) rfl (wd_E (i := 0) rfl) rfl rfl (by decide) (by decide) rfl (Nat.le_of_ble_eq_true rfl) ?_
  refine rn_h (h2 := (wd S' (((((mdl (j_a0 D) 0 0 0 ++ [ol ((1 : Int32).toInt64), od 0]) ++ [ia 2 (upd (upd (fun _ => 0) 0 (xs 1)) 1 (xs 2))]).set 2 (cAL 2 (84 + 6 + 1) 1)).set 6 (oAL (va_up (va_up (fun _ => none) 0 (some 90)) 1 (some (84 + (7 + 2) + 1))))).set 2 (cAL 2 (84 + 6 + 1) 2)), 6544 + 2)) rfl ?_
  refine rn_istore dL_law_379 (by decide) rfl ?_
  refine rn_aload_n dL_law_381 rfl ?_
  refine rn_callV dL_law_382 cv_L_105 (c_X11_thrown (i := 84) (t := 0) (wd_E (i := 0) rfl)) rfl (wd_E (i := 0) rfl) rfl rfl (by decide) (by decide) rfl (Nat.le_of_ble_eq_true rfl) ?_
  refine rn_iload dL_law_385 rfl ?_
  refine rn_icmp_eq (tgt := 392) dL_law_387 rfl (fun _ => ?_) (fun q => absurd (by decide) q)
  refine rn_iload dL_law_392 rfl ?_
  refine rn_if_ne (tgt := 409) dL_law_394 rfl (fun q => absurd q (by decide)) (fun _ => ?_)
  refine rn_aload_n dL_law_397 rfl ?_
  refine rn_iconst (v := 0) dL_law_398 rfl ?_
  refine rn_laload (a := 84 + 7) dL_law_399 (wd_E (c := ol ((1 : Int32).toInt64)) (i := 7) rfl) rfl (by unfold vp_in; decide) ?_
  refine rn_topl (y := ((1 : Int32).toInt64)) rfl ?_
  refine rn_iload dL_law_400 rfl ?_
  refine rn_i2l dL_law_402 rfl ?_
  refine rn_lcmp dL_law_403 ?_
  refine rn_topi (y := 0) (by decide +kernel) ?_
  refine rn_if_eq (tgt := 409) dL_law_404 rfl (fun _ => ?_) (fun q => absurd (by decide) q)
  refine rn_goto (tgt := 2228) dL_law_409 rfl ?_
  exact law_tail rfl rfl
set_option maxRecDepth 20000 in
theorem la_2_no (hl : l.stackTraces = false) (hne : ¬ ((8 ≤ xs 1 ∧ xs 1 ≤ 16) ∧ (1 ≤ xs 2 ∧ xs 2 ≤ 8))) : ∃ h' : j_H, (h'.1.length ≤ 400 ∧ h'.2 ≤ 20000) ∧ Rn l D ad tc 6 xs mL_law 200 6000 344 [(5, .int 0), (4, .ref 93), (3, .ref 92), (2, .ref 85), (1, .ref 1), (0, .ref 0)] [] (wd s0 (mdl (j_a0 D) 0 0 0 ++ [ol 0, od 0]), 6544) (some (.int 1)) h' := by
  refine ⟨(wd s0 (mdl (j_a0 D) 2 0 0 ++ [ol 0, od 0, j_x 2]), 6544 + 6), ⟨by simp [wd_len, mdl, lkT], Nat.le_of_ble_eq_true rfl⟩, ?_⟩
  refine rn_aload_n dL_law_344 rfl ?_
  refine rn_aload_n dL_law_345 rfl ?_
  refine rn_iload dL_law_346 rfl ?_
  refine rn_iconst (v := 1) dL_law_348 rfl ?_
  refine rn_iadd dL_law_349 ?_
  refine rn_topi (y := 1) (by decide) ?_
  refine rn_sld dL_law_350 (by unfold vp_in; decide) ?_
  refine rn_topi (y := xs 1) rfl ?_
  refine rn_aload_n dL_law_351 rfl ?_
  refine rn_iload dL_law_352 rfl ?_
  refine rn_iconst (v := 2) dL_law_354 rfl ?_
  refine rn_iadd dL_law_355 ?_
  refine rn_topi (y := 2) (by decide) ?_
  refine rn_sld dL_law_356 (by unfold vp_in; decide) ?_
  refine rn_topi (y := xs 2) rfl ?_
  refine rn_aload_n dL_law_357 rfl ?_
  refine rn_callSW dL_law_358 csw_L_113 (w_corner_x2 (x_corner hl Fr_0 hne) (by decide) (by decide)) rfl (by decide) (by decide) rfl (Nat.le_of_ble_eq_true rfl) ?_
  refine rn_h (h2 := (wd s0 (mdl (j_a0 D) 0 0 0 ++ [ol 0, od 0, j_x 2]), 6544 + 6)) rfl ?_
  refine rn_istore dL_law_361 (by decide) rfl ?_
  refine rn_aload_n dL_law_363 rfl ?_
  refine rn_aload_n dL_law_364 rfl ?_
  refine rn_iload dL_law_365 rfl ?_
  refine rn_iconst (v := 1) dL_law_367 rfl ?_
  refine rn_iadd dL_law_368 ?_
  refine rn_topi (y := 1) (by decide) ?_
  refine rn_sld dL_law_369 (by unfold vp_in; decide) ?_
  refine rn_topi (y := xs 1) rfl ?_
  refine rn_aload_n dL_law_370 rfl ?_
  refine rn_iload dL_law_371 rfl ?_
  refine rn_iconst (v := 2) dL_law_373 rfl ?_
  refine rn_iadd dL_law_374 ?_
  refine rn_topi (y := 2) (by decide) ?_
  refine rn_sld dL_law_375 (by unfold vp_in; decide) ?_
  refine rn_topi (y := xs 2) rfl ?_
  refine rn_callV dL_law_376 cv_L_116 (c_X11_corner_no (G := gW s0) (U := [ol 0, od 0, j_x 2]) (u := 3) gW_len rfl hne) rfl (wd_E (i := 0) rfl) rfl rfl (by decide) (by decide) rfl (Nat.le_of_ble_eq_true rfl) ?_
  refine rn_h (h2 := (wd s0 (mdl (j_a0 D) 2 0 0 ++ [ol 0, od 0, j_x 2]), 6544 + 6)) rfl ?_
  refine rn_istore dL_law_379 (by decide) rfl ?_
  refine rn_aload_n dL_law_381 rfl ?_
  refine rn_callV dL_law_382 cv_L_105 (c_X11_thrown (i := 84) (t := 2) (wd_E (i := 0) rfl)) rfl (wd_E (i := 0) rfl) rfl rfl (by decide) (by decide) rfl (Nat.le_of_ble_eq_true rfl) ?_
  refine rn_iload dL_law_385 rfl ?_
  refine rn_icmp_eq (tgt := 392) dL_law_387 rfl (fun _ => ?_) (fun q => absurd (by decide) q)
  refine rn_iload dL_law_392 rfl ?_
  refine rn_if_ne (tgt := 409) dL_law_394 rfl (fun _ => ?_) (fun q => absurd q (by decide))
  refine rn_goto (tgt := 2228) dL_law_409 rfl ?_
  exact law_tail rfl rfl
set_option maxRecDepth 20000 in
theorem la_3_in (hl : l.stackTraces = false) (hk : 0 ≤ xs 1 ∧ xs 1 ≤ 8) : ∃ h' : j_H, (h'.1.length ≤ 400 ∧ h'.2 ≤ 20000) ∧ Rn l D ad tc 6 xs mL_law 200 6000 412 [(5, .int 0), (4, .ref 93), (3, .ref 92), (2, .ref 85), (1, .ref 1), (0, .ref 0)] [] (wd s0 (mdl (j_a0 D) 0 0 0 ++ [ol 0, od 0]), 6544) (some (.int 1)) h' := by
  refine ⟨(wd s0 (mdl (j_a0 D) 2 0 0 ++ [ol 0, od 0, j_x 1]), 6544 + 6), ⟨by simp [wd_len, mdl, lkT], Nat.le_of_ble_eq_true rfl⟩, ?_⟩
  refine rn_aload_n dL_law_412 rfl ?_
  refine rn_aload_n dL_law_413 rfl ?_
  refine rn_iload dL_law_414 rfl ?_
  refine rn_iconst (v := 1) dL_law_416 rfl ?_
  refine rn_iadd dL_law_417 ?_
  refine rn_topi (y := 1) (by decide) ?_
  refine rn_sld dL_law_418 (by unfold vp_in; decide) ?_
  refine rn_topi (y := xs 1) rfl ?_
  refine rn_aload_n dL_law_419 rfl ?_
  refine rn_iload dL_law_420 rfl ?_
  refine rn_iconst (v := 2) dL_law_422 rfl ?_
  refine rn_iadd dL_law_423 ?_
  refine rn_topi (y := 2) (by decide) ?_
  refine rn_sld dL_law_424 (by unfold vp_in; decide) ?_
  refine rn_topi (y := xs 2) rfl ?_
  refine rn_aload_n dL_law_425 rfl ?_
  refine rn_iload dL_law_426 rfl ?_
  refine rn_iconst (v := 3) dL_law_428 rfl ?_
  refine rn_iadd dL_law_429 ?_
  refine rn_topi (y := 3) (by decide) ?_
  refine rn_sld dL_law_430 (by unfold vp_in; decide) ?_
  refine rn_topi (y := xs 3) rfl ?_
  refine rn_aload_n dL_law_431 rfl ?_
  refine rn_iload dL_law_432 rfl ?_
  refine rn_iconst (v := 4) dL_law_434 rfl ?_
  refine rn_iadd dL_law_435 ?_
  refine rn_topi (y := 4) (by decide) ?_
  refine rn_sld dL_law_436 (by unfold vp_in; decide) ?_
  refine rn_topi (y := xs 4) rfl ?_
  refine rn_aload_n dL_law_437 rfl ?_
  refine rn_callSW dL_law_438 csw_L_117 (w_node_x1 (x_node hl Fr_0 hk) (by decide) (by decide)) rfl (by decide) (by decide) rfl (Nat.le_of_ble_eq_true rfl) ?_
  refine rn_h (h2 := (wd s0 (mdl (j_a0 D) 0 0 0 ++ [ol 0, od 0, j_x 1]), 6544 + 6)) rfl ?_
  refine rn_istore dL_law_441 (by decide) rfl ?_
  refine rn_aload_n dL_law_443 rfl ?_
  refine rn_aload_n dL_law_444 rfl ?_
  refine rn_iload dL_law_445 rfl ?_
  refine rn_iconst (v := 1) dL_law_447 rfl ?_
  refine rn_iadd dL_law_448 ?_
  refine rn_topi (y := 1) (by decide) ?_
  refine rn_sld dL_law_449 (by unfold vp_in; decide) ?_
  refine rn_topi (y := xs 1) rfl ?_
  refine rn_aload_n dL_law_450 rfl ?_
  refine rn_iload dL_law_451 rfl ?_
  refine rn_iconst (v := 2) dL_law_453 rfl ?_
  refine rn_iadd dL_law_454 ?_
  refine rn_topi (y := 2) (by decide) ?_
  refine rn_sld dL_law_455 (by unfold vp_in; decide) ?_
  refine rn_topi (y := xs 2) rfl ?_
  refine rn_aload_n dL_law_456 rfl ?_
  refine rn_iload dL_law_457 rfl ?_
  refine rn_iconst (v := 3) dL_law_459 rfl ?_
  refine rn_iadd dL_law_460 ?_
  refine rn_topi (y := 3) (by decide) ?_
  refine rn_sld dL_law_461 (by unfold vp_in; decide) ?_
  refine rn_topi (y := xs 3) rfl ?_
  refine rn_aload_n dL_law_462 rfl ?_
  refine rn_iload dL_law_463 rfl ?_
  refine rn_iconst (v := 4) dL_law_465 rfl ?_
  refine rn_iadd dL_law_466 ?_
  refine rn_topi (y := 4) (by decide) ?_
  refine rn_sld dL_law_467 (by unfold vp_in; decide) ?_
  refine rn_topi (y := xs 4) rfl ?_
  refine rn_callV dL_law_468 cv_L_119 (c_X11_node_in (G := gW s0) (U := [ol 0, od 0, j_x 1]) (u := 3) gW_len rfl hk) rfl (wd_E (i := 0) rfl) rfl rfl (by decide) (by decide) rfl (Nat.le_of_ble_eq_true rfl) ?_
  refine rn_h (h2 := (wd s0 (mdl (j_a0 D) 2 0 0 ++ [ol 0, od 0, j_x 1]), 6544 + 6)) rfl ?_
  refine rn_istore dL_law_471 (by decide) rfl ?_
  refine rn_aload_n dL_law_473 rfl ?_
  refine rn_callV dL_law_474 cv_L_105 (c_X11_thrown (i := 84) (t := 2) (wd_E (i := 0) rfl)) rfl (wd_E (i := 0) rfl) rfl rfl (by decide) (by decide) rfl (Nat.le_of_ble_eq_true rfl) ?_
  refine rn_iload dL_law_477 rfl ?_
  refine rn_icmp_eq (tgt := 484) dL_law_479 rfl (fun _ => ?_) (fun q => absurd (by decide) q)
  refine rn_iload dL_law_484 rfl ?_
  refine rn_if_ne (tgt := 501) dL_law_486 rfl (fun _ => ?_) (fun q => absurd q (by decide))
  refine rn_goto (tgt := 2228) dL_law_501 rfl ?_
  exact law_tail rfl rfl
set_option maxRecDepth 20000 in
theorem la_3_no (hl : l.stackTraces = false) (hk : ¬ (0 ≤ xs 1 ∧ xs 1 ≤ 8)) : ∃ h' : j_H, (h'.1.length ≤ 400 ∧ h'.2 ≤ 20000) ∧ Rn l D ad tc 6 xs mL_law 200 6000 412 [(5, .int 0), (4, .ref 93), (3, .ref 92), (2, .ref 85), (1, .ref 1), (0, .ref 0)] [] (wd s0 (mdl (j_a0 D) 0 0 0 ++ [ol 0, od 0]), 6544) (some (.int 1)) h' := by
  refine ⟨(wd s0 (mdl (j_a0 D) 3 0 0 ++ [ol 0, od 0, j_x 2]), 6544 + 6), ⟨by simp [wd_len, mdl, lkT], Nat.le_of_ble_eq_true rfl⟩, ?_⟩
  refine rn_aload_n dL_law_412 rfl ?_
  refine rn_aload_n dL_law_413 rfl ?_
  refine rn_iload dL_law_414 rfl ?_
  refine rn_iconst (v := 1) dL_law_416 rfl ?_
  refine rn_iadd dL_law_417 ?_
  refine rn_topi (y := 1) (by decide) ?_
  refine rn_sld dL_law_418 (by unfold vp_in; decide) ?_
  refine rn_topi (y := xs 1) rfl ?_
  refine rn_aload_n dL_law_419 rfl ?_
  refine rn_iload dL_law_420 rfl ?_
  refine rn_iconst (v := 2) dL_law_422 rfl ?_
  refine rn_iadd dL_law_423 ?_
  refine rn_topi (y := 2) (by decide) ?_
  refine rn_sld dL_law_424 (by unfold vp_in; decide) ?_
  refine rn_topi (y := xs 2) rfl ?_
  refine rn_aload_n dL_law_425 rfl ?_
  refine rn_iload dL_law_426 rfl ?_
  refine rn_iconst (v := 3) dL_law_428 rfl ?_
  refine rn_iadd dL_law_429 ?_
  refine rn_topi (y := 3) (by decide) ?_
  refine rn_sld dL_law_430 (by unfold vp_in; decide) ?_
  refine rn_topi (y := xs 3) rfl ?_
  refine rn_aload_n dL_law_431 rfl ?_
  refine rn_iload dL_law_432 rfl ?_
  refine rn_iconst (v := 4) dL_law_434 rfl ?_
  refine rn_iadd dL_law_435 ?_
  refine rn_topi (y := 4) (by decide) ?_
  refine rn_sld dL_law_436 (by unfold vp_in; decide) ?_
  refine rn_topi (y := xs 4) rfl ?_
  refine rn_aload_n dL_law_437 rfl ?_
  refine rn_callSW dL_law_438 csw_L_117 (w_node_x2 (x_node_no hl Fr_0 hk) (by decide) (by decide)) rfl (by decide) (by decide) rfl (Nat.le_of_ble_eq_true rfl) ?_
  refine rn_h (h2 := (wd s0 (mdl (j_a0 D) 0 0 0 ++ [ol 0, od 0, j_x 2]), 6544 + 6)) rfl ?_
  refine rn_istore dL_law_441 (by decide) rfl ?_
  refine rn_aload_n dL_law_443 rfl ?_
  refine rn_aload_n dL_law_444 rfl ?_
  refine rn_iload dL_law_445 rfl ?_
  refine rn_iconst (v := 1) dL_law_447 rfl ?_
  refine rn_iadd dL_law_448 ?_
  refine rn_topi (y := 1) (by decide) ?_
  refine rn_sld dL_law_449 (by unfold vp_in; decide) ?_
  refine rn_topi (y := xs 1) rfl ?_
  refine rn_aload_n dL_law_450 rfl ?_
  refine rn_iload dL_law_451 rfl ?_
  refine rn_iconst (v := 2) dL_law_453 rfl ?_
  refine rn_iadd dL_law_454 ?_
  refine rn_topi (y := 2) (by decide) ?_
  refine rn_sld dL_law_455 (by unfold vp_in; decide) ?_
  refine rn_topi (y := xs 2) rfl ?_
  refine rn_aload_n dL_law_456 rfl ?_
  refine rn_iload dL_law_457 rfl ?_
  refine rn_iconst (v := 3) dL_law_459 rfl ?_
  refine rn_iadd dL_law_460 ?_
  refine rn_topi (y := 3) (by decide) ?_
  refine rn_sld dL_law_461 (by unfold vp_in; decide) ?_
  refine rn_topi (y := xs 3) rfl ?_
  refine rn_aload_n dL_law_462 rfl ?_
  refine rn_iload dL_law_463 rfl ?_
  refine rn_iconst (v := 4) dL_law_465 rfl ?_
  refine rn_iadd dL_law_466 ?_
  refine rn_topi (y := 4) (by decide) ?_
  refine rn_sld dL_law_467 (by unfold vp_in; decide) ?_
  refine rn_topi (y := xs 4) rfl ?_
  refine rn_callV dL_law_468 cv_L_119 (c_X11_node_no (G := gW s0) (U := [ol 0, od 0, j_x 2]) (u := 3) gW_len rfl hk) rfl (wd_E (i := 0) rfl) rfl rfl (by decide) (by decide) rfl (Nat.le_of_ble_eq_true rfl) ?_
  refine rn_h (h2 := (wd s0 (mdl (j_a0 D) 3 0 0 ++ [ol 0, od 0, j_x 2]), 6544 + 6)) rfl ?_
  refine rn_istore dL_law_471 (by decide) rfl ?_
  refine rn_aload_n dL_law_473 rfl ?_
  refine rn_callV dL_law_474 cv_L_105 (c_X11_thrown (i := 84) (t := 3) (wd_E (i := 0) rfl)) rfl (wd_E (i := 0) rfl) rfl rfl (by decide) (by decide) rfl (Nat.le_of_ble_eq_true rfl) ?_
  refine rn_iload dL_law_477 rfl ?_
  refine rn_icmp_eq (tgt := 484) dL_law_479 rfl (fun _ => ?_) (fun q => absurd (by decide) q)
  refine rn_iload dL_law_484 rfl ?_
  refine rn_if_ne (tgt := 501) dL_law_486 rfl (fun _ => ?_) (fun q => absurd q (by decide))
  refine rn_goto (tgt := 2228) dL_law_501 rfl ?_
  exact law_tail rfl rfl
set_option maxRecDepth 20000 in
theorem la_4_no (hl : l.stackTraces = false)  : ∃ h' : j_H, (h'.1.length ≤ 400 ∧ h'.2 ≤ 20000) ∧ Rn l D ad tc 6 xs mL_law 200 6000 504 [(5, .int 0), (4, .ref 93), (3, .ref 92), (2, .ref 85), (1, .ref 1), (0, .ref 0)] [] (wd s0 (mdl (j_a0 D) 0 0 0 ++ [ol 0, od 0]), 6544) (some (.int 1)) h' := by
  refine ⟨(wd s0 (mdl (j_a0 D) 2 0 0 ++ [ol 0, od 0, j_x 1]), 6544 + 6), ⟨by simp [wd_len, mdl, lkT], Nat.le_of_ble_eq_true rfl⟩, ?_⟩
  refine rn_aload_n dL_law_504 rfl ?_
  refine rn_aload_n dL_law_505 rfl ?_
  refine rn_iload dL_law_506 rfl ?_
  refine rn_iconst (v := 1) dL_law_508 rfl ?_
  refine rn_iadd dL_law_509 ?_
  refine rn_topi (y := 1) (by decide) ?_
  refine rn_sld dL_law_510 (by unfold vp_in; decide) ?_
  refine rn_topi (y := xs 1) rfl ?_
  refine rn_aload_n dL_law_511 rfl ?_
  refine rn_iload dL_law_512 rfl ?_
  refine rn_iconst (v := 2) dL_law_514 rfl ?_
  refine rn_iadd dL_law_515 ?_
  refine rn_topi (y := 2) (by decide) ?_
  refine rn_sld dL_law_516 (by unfold vp_in; decide) ?_
  refine rn_topi (y := xs 2) rfl ?_
  refine rn_aload_n dL_law_517 rfl ?_
  refine rn_callSW dL_law_518 csw_L_120 (w_feed_x1 (x_feed hl Fr_0) (by decide) (by decide)) rfl (by decide) (by decide) rfl (Nat.le_of_ble_eq_true rfl) ?_
  refine rn_h (h2 := (wd s0 (mdl (j_a0 D) 0 0 0 ++ [ol 0, od 0, j_x 1]), 6544 + 6)) rfl ?_
  refine rn_istore dL_law_521 (by decide) rfl ?_
  refine rn_aload_n dL_law_523 rfl ?_
  refine rn_aload_n dL_law_524 rfl ?_
  refine rn_iload dL_law_525 rfl ?_
  refine rn_iconst (v := 1) dL_law_527 rfl ?_
  refine rn_iadd dL_law_528 ?_
  refine rn_topi (y := 1) (by decide) ?_
  refine rn_sld dL_law_529 (by unfold vp_in; decide) ?_
  refine rn_topi (y := xs 1) rfl ?_
  refine rn_aload_n dL_law_530 rfl ?_
  refine rn_iload dL_law_531 rfl ?_
  refine rn_iconst (v := 2) dL_law_533 rfl ?_
  refine rn_iadd dL_law_534 ?_
  refine rn_topi (y := 2) (by decide) ?_
  refine rn_sld dL_law_535 (by unfold vp_in; decide) ?_
  refine rn_topi (y := xs 2) rfl ?_
  refine rn_callV dL_law_536 cv_L_122 (c_X11_feed (G := gW s0) (U := [ol 0, od 0, j_x 1]) (u := 3) gW_len rfl) rfl (wd_E (i := 0) rfl) rfl rfl (by decide) (by decide) rfl (Nat.le_of_ble_eq_true rfl) ?_
  refine rn_h (h2 := (wd s0 (mdl (j_a0 D) 2 0 0 ++ [ol 0, od 0, j_x 1]), 6544 + 6)) rfl ?_
  refine rn_istore dL_law_539 (by decide) rfl ?_
  refine rn_aload_n dL_law_541 rfl ?_
  refine rn_callV dL_law_542 cv_L_105 (c_X11_thrown (i := 84) (t := 2) (wd_E (i := 0) rfl)) rfl (wd_E (i := 0) rfl) rfl rfl (by decide) (by decide) rfl (Nat.le_of_ble_eq_true rfl) ?_
  refine rn_iload dL_law_545 rfl ?_
  refine rn_icmp_eq (tgt := 552) dL_law_547 rfl (fun _ => ?_) (fun q => absurd (by decide) q)
  refine rn_iload dL_law_552 rfl ?_
  refine rn_if_ne (tgt := 569) dL_law_554 rfl (fun _ => ?_) (fun q => absurd q (by decide))
  refine rn_goto (tgt := 2228) dL_law_569 rfl ?_
  exact law_tail rfl rfl
set_option maxRecDepth 20000 in
theorem la_5_no (hl : l.stackTraces = false)  : ∃ h' : j_H, (h'.1.length ≤ 400 ∧ h'.2 ≤ 20000) ∧ Rn l D ad tc 6 xs mL_law 200 6000 572 [(5, .int 0), (4, .ref 93), (3, .ref 92), (2, .ref 85), (1, .ref 1), (0, .ref 0)] [] (wd s0 (mdl (j_a0 D) 0 0 0 ++ [ol 0, od 0]), 6544) (some (.int 1)) h' := by
  refine ⟨(wd s0 (mdl (j_a0 D) 2 0 0 ++ [ol 0, od 0, j_x 1]), 6544 + 6), ⟨by simp [wd_len, mdl, lkT], Nat.le_of_ble_eq_true rfl⟩, ?_⟩
  refine rn_aload_n dL_law_572 rfl ?_
  refine rn_aload_n dL_law_573 rfl ?_
  refine rn_iload dL_law_574 rfl ?_
  refine rn_iconst (v := 1) dL_law_576 rfl ?_
  refine rn_iadd dL_law_577 ?_
  refine rn_topi (y := 1) (by decide) ?_
  refine rn_sld dL_law_578 (by unfold vp_in; decide) ?_
  refine rn_topi (y := xs 1) rfl ?_
  refine rn_aload_n dL_law_579 rfl ?_
  refine rn_iload dL_law_580 rfl ?_
  refine rn_iconst (v := 2) dL_law_582 rfl ?_
  refine rn_iadd dL_law_583 ?_
  refine rn_topi (y := 2) (by decide) ?_
  refine rn_sld dL_law_584 (by unfold vp_in; decide) ?_
  refine rn_topi (y := xs 2) rfl ?_
  refine rn_aload_n dL_law_585 rfl ?_
  refine rn_callSW dL_law_586 csw_L_123 (w_size_x1 (x_size hl Fr_0) (by decide) (by decide)) rfl (by decide) (by decide) rfl (Nat.le_of_ble_eq_true rfl) ?_
  refine rn_h (h2 := (wd s0 (mdl (j_a0 D) 0 0 0 ++ [ol 0, od 0, j_x 1]), 6544 + 6)) rfl ?_
  refine rn_istore dL_law_589 (by decide) rfl ?_
  refine rn_aload_n dL_law_591 rfl ?_
  refine rn_aload_n dL_law_592 rfl ?_
  refine rn_iload dL_law_593 rfl ?_
  refine rn_iconst (v := 1) dL_law_595 rfl ?_
  refine rn_iadd dL_law_596 ?_
  refine rn_topi (y := 1) (by decide) ?_
  refine rn_sld dL_law_597 (by unfold vp_in; decide) ?_
  refine rn_topi (y := xs 1) rfl ?_
  refine rn_aload_n dL_law_598 rfl ?_
  refine rn_iload dL_law_599 rfl ?_
  refine rn_iconst (v := 2) dL_law_601 rfl ?_
  refine rn_iadd dL_law_602 ?_
  refine rn_topi (y := 2) (by decide) ?_
  refine rn_sld dL_law_603 (by unfold vp_in; decide) ?_
  refine rn_topi (y := xs 2) rfl ?_
  refine rn_callV dL_law_604 cv_L_125 (c_X11_size (G := gW s0) (U := [ol 0, od 0, j_x 1]) (u := 3) gW_len rfl) rfl (wd_E (i := 0) rfl) rfl rfl (by decide) (by decide) rfl (Nat.le_of_ble_eq_true rfl) ?_
  refine rn_h (h2 := (wd s0 (mdl (j_a0 D) 2 0 0 ++ [ol 0, od 0, j_x 1]), 6544 + 6)) rfl ?_
  refine rn_istore dL_law_607 (by decide) rfl ?_
  refine rn_aload_n dL_law_609 rfl ?_
  refine rn_callV dL_law_610 cv_L_105 (c_X11_thrown (i := 84) (t := 2) (wd_E (i := 0) rfl)) rfl (wd_E (i := 0) rfl) rfl rfl (by decide) (by decide) rfl (Nat.le_of_ble_eq_true rfl) ?_
  refine rn_iload dL_law_613 rfl ?_
  refine rn_icmp_eq (tgt := 620) dL_law_615 rfl (fun _ => ?_) (fun q => absurd (by decide) q)
  refine rn_iload dL_law_620 rfl ?_
  refine rn_if_ne (tgt := 637) dL_law_622 rfl (fun _ => ?_) (fun q => absurd q (by decide))
  refine rn_goto (tgt := 2228) dL_law_637 rfl ?_
  exact law_tail rfl rfl
set_option maxRecDepth 20000 in
theorem la_6_no (hl : l.stackTraces = false)  : ∃ h' : j_H, (h'.1.length ≤ 400 ∧ h'.2 ≤ 20000) ∧ Rn l D ad tc 6 xs mL_law 200 6000 640 [(5, .int 0), (4, .ref 93), (3, .ref 92), (2, .ref 85), (1, .ref 1), (0, .ref 0)] [] (wd s0 (mdl (j_a0 D) 0 0 0 ++ [ol 0, od 0]), 6544) (some (.int 1)) h' := by
  refine ⟨(wd s0 (mdl (j_a0 D) 2 0 0 ++ [ol 0, od 0, j_x 1]), 6544 + 6), ⟨by simp [wd_len, mdl, lkT], Nat.le_of_ble_eq_true rfl⟩, ?_⟩
  refine rn_aload_n dL_law_640 rfl ?_
  refine rn_aload_n dL_law_641 rfl ?_
  refine rn_iload dL_law_642 rfl ?_
  refine rn_iconst (v := 1) dL_law_644 rfl ?_
  refine rn_iadd dL_law_645 ?_
  refine rn_topi (y := 1) (by decide) ?_
  refine rn_sld dL_law_646 (by unfold vp_in; decide) ?_
  refine rn_topi (y := xs 1) rfl ?_
  refine rn_aload_n dL_law_647 rfl ?_
  refine rn_iload dL_law_648 rfl ?_
  refine rn_iconst (v := 2) dL_law_650 rfl ?_
  refine rn_iadd dL_law_651 ?_
  refine rn_topi (y := 2) (by decide) ?_
  refine rn_sld dL_law_652 (by unfold vp_in; decide) ?_
  refine rn_topi (y := xs 2) rfl ?_
  refine rn_aload_n dL_law_653 rfl ?_
  refine rn_callSW dL_law_654 csw_L_126 (w_wire_x1 (x_wire hl Fr_0) (by decide) (by decide)) rfl (by decide) (by decide) rfl (Nat.le_of_ble_eq_true rfl) ?_
  refine rn_h (h2 := (wd s0 (mdl (j_a0 D) 0 0 0 ++ [ol 0, od 0, j_x 1]), 6544 + 6)) rfl ?_
  refine rn_istore dL_law_657 (by decide) rfl ?_
  refine rn_aload_n dL_law_659 rfl ?_
  refine rn_aload_n dL_law_660 rfl ?_
  refine rn_iload dL_law_661 rfl ?_
  refine rn_iconst (v := 1) dL_law_663 rfl ?_
  refine rn_iadd dL_law_664 ?_
  refine rn_topi (y := 1) (by decide) ?_
  refine rn_sld dL_law_665 (by unfold vp_in; decide) ?_
  refine rn_topi (y := xs 1) rfl ?_
  refine rn_aload_n dL_law_666 rfl ?_
  refine rn_iload dL_law_667 rfl ?_
  refine rn_iconst (v := 2) dL_law_669 rfl ?_
  refine rn_iadd dL_law_670 ?_
  refine rn_topi (y := 2) (by decide) ?_
  refine rn_sld dL_law_671 (by unfold vp_in; decide) ?_
  refine rn_topi (y := xs 2) rfl ?_
  refine rn_callV dL_law_672 cv_L_128 (c_X11_wire (G := gW s0) (U := [ol 0, od 0, j_x 1]) (u := 3) gW_len rfl) rfl (wd_E (i := 0) rfl) rfl rfl (by decide) (by decide) rfl (Nat.le_of_ble_eq_true rfl) ?_
  refine rn_h (h2 := (wd s0 (mdl (j_a0 D) 2 0 0 ++ [ol 0, od 0, j_x 1]), 6544 + 6)) rfl ?_
  refine rn_istore dL_law_675 (by decide) rfl ?_
  refine rn_aload_n dL_law_677 rfl ?_
  refine rn_callV dL_law_678 cv_L_105 (c_X11_thrown (i := 84) (t := 2) (wd_E (i := 0) rfl)) rfl (wd_E (i := 0) rfl) rfl rfl (by decide) (by decide) rfl (Nat.le_of_ble_eq_true rfl) ?_
  refine rn_iload dL_law_681 rfl ?_
  refine rn_icmp_eq (tgt := 688) dL_law_683 rfl (fun _ => ?_) (fun q => absurd (by decide) q)
  refine rn_iload dL_law_688 rfl ?_
  refine rn_if_ne (tgt := 705) dL_law_690 rfl (fun _ => ?_) (fun q => absurd q (by decide))
  refine rn_goto (tgt := 2228) dL_law_705 rfl ?_
  exact law_tail rfl rfl
set_option maxRecDepth 20000 in
theorem la_7_no (hl : l.stackTraces = false)  : ∃ h' : j_H, (h'.1.length ≤ 400 ∧ h'.2 ≤ 20000) ∧ Rn l D ad tc 6 xs mL_law 200 6000 708 [(5, .int 0), (4, .ref 93), (3, .ref 92), (2, .ref 85), (1, .ref 1), (0, .ref 0)] [] (wd s0 (mdl (j_a0 D) 0 0 0 ++ [ol 0, od 0]), 6544) (some (.int 1)) h' := by
  refine ⟨(wd s0 (mdl (j_a0 D) 2 0 0 ++ [ol 0, od 0, j_x 1]), 6544 + 6), ⟨by simp [wd_len, mdl, lkT], Nat.le_of_ble_eq_true rfl⟩, ?_⟩
  refine rn_aload_n dL_law_708 rfl ?_
  refine rn_aload_n dL_law_709 rfl ?_
  refine rn_iload dL_law_710 rfl ?_
  refine rn_iconst (v := 1) dL_law_712 rfl ?_
  refine rn_iadd dL_law_713 ?_
  refine rn_topi (y := 1) (by decide) ?_
  refine rn_sld dL_law_714 (by unfold vp_in; decide) ?_
  refine rn_topi (y := xs 1) rfl ?_
  refine rn_aload_n dL_law_715 rfl ?_
  refine rn_iload dL_law_716 rfl ?_
  refine rn_iconst (v := 2) dL_law_718 rfl ?_
  refine rn_iadd dL_law_719 ?_
  refine rn_topi (y := 2) (by decide) ?_
  refine rn_sld dL_law_720 (by unfold vp_in; decide) ?_
  refine rn_topi (y := xs 2) rfl ?_
  refine rn_aload_n dL_law_721 rfl ?_
  refine rn_callSW dL_law_722 csw_L_129 (w_skew_x1 (x_skew hl Fr_0) (by decide) (by decide)) rfl (by decide) (by decide) rfl (Nat.le_of_ble_eq_true rfl) ?_
  refine rn_h (h2 := (wd s0 (mdl (j_a0 D) 0 0 0 ++ [ol 0, od 0, j_x 1]), 6544 + 6)) rfl ?_
  refine rn_istore dL_law_725 (by decide) rfl ?_
  refine rn_aload_n dL_law_727 rfl ?_
  refine rn_aload_n dL_law_728 rfl ?_
  refine rn_iload dL_law_729 rfl ?_
  refine rn_iconst (v := 1) dL_law_731 rfl ?_
  refine rn_iadd dL_law_732 ?_
  refine rn_topi (y := 1) (by decide) ?_
  refine rn_sld dL_law_733 (by unfold vp_in; decide) ?_
  refine rn_topi (y := xs 1) rfl ?_
  refine rn_aload_n dL_law_734 rfl ?_
  refine rn_iload dL_law_735 rfl ?_
  refine rn_iconst (v := 2) dL_law_737 rfl ?_
  refine rn_iadd dL_law_738 ?_
  refine rn_topi (y := 2) (by decide) ?_
  refine rn_sld dL_law_739 (by unfold vp_in; decide) ?_
  refine rn_topi (y := xs 2) rfl ?_
  refine rn_callV dL_law_740 cv_L_131 (c_X11_skew (G := gW s0) (U := [ol 0, od 0, j_x 1]) (u := 3) gW_len rfl) rfl (wd_E (i := 0) rfl) rfl rfl (by decide) (by decide) rfl (Nat.le_of_ble_eq_true rfl) ?_
  refine rn_h (h2 := (wd s0 (mdl (j_a0 D) 2 0 0 ++ [ol 0, od 0, j_x 1]), 6544 + 6)) rfl ?_
  refine rn_istore dL_law_743 (by decide) rfl ?_
  refine rn_aload_n dL_law_745 rfl ?_
  refine rn_callV dL_law_746 cv_L_105 (c_X11_thrown (i := 84) (t := 2) (wd_E (i := 0) rfl)) rfl (wd_E (i := 0) rfl) rfl rfl (by decide) (by decide) rfl (Nat.le_of_ble_eq_true rfl) ?_
  refine rn_iload dL_law_749 rfl ?_
  refine rn_icmp_eq (tgt := 756) dL_law_751 rfl (fun _ => ?_) (fun q => absurd (by decide) q)
  refine rn_iload dL_law_756 rfl ?_
  refine rn_if_ne (tgt := 773) dL_law_758 rfl (fun _ => ?_) (fun q => absurd q (by decide))
  refine rn_goto (tgt := 2228) dL_law_773 rfl ?_
  exact law_tail rfl rfl
set_option maxRecDepth 20000 in
theorem la_8_from (hl : l.stackTraces = false) (hb : ¬ xs 2 = -1) : ∃ h' : j_H, (h'.1.length ≤ 400 ∧ h'.2 ≤ 20000) ∧ Rn l D ad tc 6 xs mL_law 200 6000 776 [(5, .int 0), (4, .ref 93), (3, .ref 92), (2, .ref 85), (1, .ref 1), (0, .ref 0)] [] (wd s0 (mdl (j_a0 D) 0 0 0 ++ [ol 0, od 0]), 6544) (some (.int 1)) h' := by
  refine ⟨(wd s0 (mdl (j_a0 D) 2 0 0 ++ [ol 0, od 0, j_x 1]), 6544 + 6), ⟨by simp [wd_len, mdl, lkT], Nat.le_of_ble_eq_true rfl⟩, ?_⟩
  refine rn_aload_n dL_law_776 rfl ?_
  refine rn_aload_n dL_law_777 rfl ?_
  refine rn_iload dL_law_778 rfl ?_
  refine rn_iconst (v := 1) dL_law_780 rfl ?_
  refine rn_iadd dL_law_781 ?_
  refine rn_topi (y := 1) (by decide) ?_
  refine rn_sld dL_law_782 (by unfold vp_in; decide) ?_
  refine rn_topi (y := xs 1) rfl ?_
  refine rn_aload_n dL_law_783 rfl ?_
  refine rn_iload dL_law_784 rfl ?_
  refine rn_iconst (v := 2) dL_law_786 rfl ?_
  refine rn_iadd dL_law_787 ?_
  refine rn_topi (y := 2) (by decide) ?_
  refine rn_sld dL_law_788 (by unfold vp_in; decide) ?_
  refine rn_topi (y := xs 2) rfl ?_
  refine rn_aload_n dL_law_789 rfl ?_
  refine rn_iload dL_law_790 rfl ?_
  refine rn_iconst (v := 3) dL_law_792 rfl ?_
  refine rn_iadd dL_law_793 ?_
  refine rn_topi (y := 3) (by decide) ?_
  refine rn_sld dL_law_794 (by unfold vp_in; decide) ?_
  refine rn_topi (y := xs 3) rfl ?_
  refine rn_aload_n dL_law_795 rfl ?_
  refine rn_callSW dL_law_796 csw_L_132 (w_exception_x1 (x_exc_from hl Fr_0 hb) (by decide) (by decide)) rfl (by decide) (by decide) rfl (Nat.le_of_ble_eq_true rfl) ?_
  refine rn_h (h2 := (wd s0 (mdl (j_a0 D) 0 0 0 ++ [ol 0, od 0, j_x 1]), 6544 + 6)) rfl ?_
  refine rn_istore dL_law_799 (by decide) rfl ?_
  refine rn_aload_n dL_law_801 rfl ?_
  refine rn_aload_n dL_law_802 rfl ?_
  refine rn_iload dL_law_803 rfl ?_
  refine rn_iconst (v := 1) dL_law_805 rfl ?_
  refine rn_iadd dL_law_806 ?_
  refine rn_topi (y := 1) (by decide) ?_
  refine rn_sld dL_law_807 (by unfold vp_in; decide) ?_
  refine rn_topi (y := xs 1) rfl ?_
  refine rn_aload_n dL_law_808 rfl ?_
  refine rn_iload dL_law_809 rfl ?_
  refine rn_iconst (v := 2) dL_law_811 rfl ?_
  refine rn_iadd dL_law_812 ?_
  refine rn_topi (y := 2) (by decide) ?_
  refine rn_sld dL_law_813 (by unfold vp_in; decide) ?_
  refine rn_topi (y := xs 2) rfl ?_
  refine rn_aload_n dL_law_814 rfl ?_
  refine rn_iload dL_law_815 rfl ?_
  refine rn_iconst (v := 3) dL_law_817 rfl ?_
  refine rn_iadd dL_law_818 ?_
  refine rn_topi (y := 3) (by decide) ?_
  refine rn_sld dL_law_819 (by unfold vp_in; decide) ?_
  refine rn_topi (y := xs 3) rfl ?_
  refine rn_callV dL_law_820 cv_L_134 (c_X11_exc_from (G := gW s0) (U := [ol 0, od 0, j_x 1]) (u := 3) gW_len rfl hb) rfl (wd_E (i := 0) rfl) rfl rfl (by decide) (by decide) rfl (Nat.le_of_ble_eq_true rfl) ?_
  refine rn_h (h2 := (wd s0 (mdl (j_a0 D) 2 0 0 ++ [ol 0, od 0, j_x 1]), 6544 + 6)) rfl ?_
  refine rn_istore dL_law_823 (by decide) rfl ?_
  refine rn_aload_n dL_law_825 rfl ?_
  refine rn_callV dL_law_826 cv_L_105 (c_X11_thrown (i := 84) (t := 2) (wd_E (i := 0) rfl)) rfl (wd_E (i := 0) rfl) rfl rfl (by decide) (by decide) rfl (Nat.le_of_ble_eq_true rfl) ?_
  refine rn_iload dL_law_829 rfl ?_
  refine rn_icmp_eq (tgt := 836) dL_law_831 rfl (fun _ => ?_) (fun q => absurd (by decide) q)
  refine rn_iload dL_law_836 rfl ?_
  refine rn_if_ne (tgt := 853) dL_law_838 rfl (fun _ => ?_) (fun q => absurd q (by decide))
  refine rn_goto (tgt := 2228) dL_law_853 rfl ?_
  exact law_tail rfl rfl
set_option maxRecDepth 20000 in
theorem la_8_to (hl : l.stackTraces = false) (eb : xs 2 = -1) (hc : ¬ xs 3 = -1) : ∃ h' : j_H, (h'.1.length ≤ 400 ∧ h'.2 ≤ 20000) ∧ Rn l D ad tc 6 xs mL_law 200 6000 776 [(5, .int 0), (4, .ref 93), (3, .ref 92), (2, .ref 85), (1, .ref 1), (0, .ref 0)] [] (wd s0 (mdl (j_a0 D) 0 0 0 ++ [ol 0, od 0]), 6544) (some (.int 1)) h' := by
  refine ⟨(wd s0 (mdl (j_a0 D) 2 0 0 ++ [ol 0, od 0, j_x 1]), 6544 + 6), ⟨by simp [wd_len, mdl, lkT], Nat.le_of_ble_eq_true rfl⟩, ?_⟩
  refine rn_aload_n dL_law_776 rfl ?_
  refine rn_aload_n dL_law_777 rfl ?_
  refine rn_iload dL_law_778 rfl ?_
  refine rn_iconst (v := 1) dL_law_780 rfl ?_
  refine rn_iadd dL_law_781 ?_
  refine rn_topi (y := 1) (by decide) ?_
  refine rn_sld dL_law_782 (by unfold vp_in; decide) ?_
  refine rn_topi (y := xs 1) rfl ?_
  refine rn_aload_n dL_law_783 rfl ?_
  refine rn_iload dL_law_784 rfl ?_
  refine rn_iconst (v := 2) dL_law_786 rfl ?_
  refine rn_iadd dL_law_787 ?_
  refine rn_topi (y := 2) (by decide) ?_
  refine rn_sld dL_law_788 (by unfold vp_in; decide) ?_
  refine rn_topi (y := xs 2) rfl ?_
  refine rn_aload_n dL_law_789 rfl ?_
  refine rn_iload dL_law_790 rfl ?_
  refine rn_iconst (v := 3) dL_law_792 rfl ?_
  refine rn_iadd dL_law_793 ?_
  refine rn_topi (y := 3) (by decide) ?_
  refine rn_sld dL_law_794 (by unfold vp_in; decide) ?_
  refine rn_topi (y := xs 3) rfl ?_
  refine rn_aload_n dL_law_795 rfl ?_
  refine rn_callSW dL_law_796 csw_L_132 (w_exception_x1 ((x_exc_to2 eb) hl Fr_0 hc) (by decide) (by decide)) rfl (by decide) (by decide) rfl (Nat.le_of_ble_eq_true rfl) ?_
  refine rn_h (h2 := (wd s0 (mdl (j_a0 D) 0 0 0 ++ [ol 0, od 0, j_x 1]), 6544 + 6)) rfl ?_
  refine rn_istore dL_law_799 (by decide) rfl ?_
  refine rn_aload_n dL_law_801 rfl ?_
  refine rn_aload_n dL_law_802 rfl ?_
  refine rn_iload dL_law_803 rfl ?_
  refine rn_iconst (v := 1) dL_law_805 rfl ?_
  refine rn_iadd dL_law_806 ?_
  refine rn_topi (y := 1) (by decide) ?_
  refine rn_sld dL_law_807 (by unfold vp_in; decide) ?_
  refine rn_topi (y := xs 1) rfl ?_
  refine rn_aload_n dL_law_808 rfl ?_
  refine rn_iload dL_law_809 rfl ?_
  refine rn_iconst (v := 2) dL_law_811 rfl ?_
  refine rn_iadd dL_law_812 ?_
  refine rn_topi (y := 2) (by decide) ?_
  refine rn_sld dL_law_813 (by unfold vp_in; decide) ?_
  refine rn_topi (y := xs 2) rfl ?_
  refine rn_aload_n dL_law_814 rfl ?_
  refine rn_iload dL_law_815 rfl ?_
  refine rn_iconst (v := 3) dL_law_817 rfl ?_
  refine rn_iadd dL_law_818 ?_
  refine rn_topi (y := 3) (by decide) ?_
  refine rn_sld dL_law_819 (by unfold vp_in; decide) ?_
  refine rn_topi (y := xs 3) rfl ?_
  refine rn_callV dL_law_820 cv_L_134 (c_X11_exc_to2 eb (G := gW s0) (U := [ol 0, od 0, j_x 1]) (u := 3) gW_len rfl hc) rfl (wd_E (i := 0) rfl) rfl rfl (by decide) (by decide) rfl (Nat.le_of_ble_eq_true rfl) ?_
  refine rn_h (h2 := (wd s0 (mdl (j_a0 D) 2 0 0 ++ [ol 0, od 0, j_x 1]), 6544 + 6)) rfl ?_
  refine rn_istore dL_law_823 (by decide) rfl ?_
  refine rn_aload_n dL_law_825 rfl ?_
  refine rn_callV dL_law_826 cv_L_105 (c_X11_thrown (i := 84) (t := 2) (wd_E (i := 0) rfl)) rfl (wd_E (i := 0) rfl) rfl rfl (by decide) (by decide) rfl (Nat.le_of_ble_eq_true rfl) ?_
  refine rn_iload dL_law_829 rfl ?_
  refine rn_icmp_eq (tgt := 836) dL_law_831 rfl (fun _ => ?_) (fun q => absurd (by decide) q)
  refine rn_iload dL_law_836 rfl ?_
  refine rn_if_ne (tgt := 853) dL_law_838 rfl (fun _ => ?_) (fun q => absurd q (by decide))
  refine rn_goto (tgt := 2228) dL_law_853 rfl ?_
  exact law_tail rfl rfl
set_option maxRecDepth 20000 in
theorem la_8_sort (hl : l.stackTraces = false) (eb : xs 2 = -1) (ec : xs 3 = -1) (h0 : ¬ xs 1 = 0) (hk : ¬ (2 ≤ xs 1 ∧ xs 1 ≤ 4)) : ∃ h' : j_H, (h'.1.length ≤ 400 ∧ h'.2 ≤ 20000) ∧ Rn l D ad tc 6 xs mL_law 200 6000 776 [(5, .int 0), (4, .ref 93), (3, .ref 92), (2, .ref 85), (1, .ref 1), (0, .ref 0)] [] (wd s0 (mdl (j_a0 D) 0 0 0 ++ [ol 0, od 0]), 6544) (some (.int 1)) h' := by
  refine ⟨(wd s0 (mdl (j_a0 D) 3 0 0 ++ [ol 0, od 0, j_x 2]), 6544 + 6), ⟨by simp [wd_len, mdl, lkT], Nat.le_of_ble_eq_true rfl⟩, ?_⟩
  refine rn_aload_n dL_law_776 rfl ?_
  refine rn_aload_n dL_law_777 rfl ?_
  refine rn_iload dL_law_778 rfl ?_
  refine rn_iconst (v := 1) dL_law_780 rfl ?_
  refine rn_iadd dL_law_781 ?_
  refine rn_topi (y := 1) (by decide) ?_
  refine rn_sld dL_law_782 (by unfold vp_in; decide) ?_
  refine rn_topi (y := xs 1) rfl ?_
  refine rn_aload_n dL_law_783 rfl ?_
  refine rn_iload dL_law_784 rfl ?_
  refine rn_iconst (v := 2) dL_law_786 rfl ?_
  refine rn_iadd dL_law_787 ?_
  refine rn_topi (y := 2) (by decide) ?_
  refine rn_sld dL_law_788 (by unfold vp_in; decide) ?_
  refine rn_topi (y := xs 2) rfl ?_
  refine rn_aload_n dL_law_789 rfl ?_
  refine rn_iload dL_law_790 rfl ?_
  refine rn_iconst (v := 3) dL_law_792 rfl ?_
  refine rn_iadd dL_law_793 ?_
  refine rn_topi (y := 3) (by decide) ?_
  refine rn_sld dL_law_794 (by unfold vp_in; decide) ?_
  refine rn_topi (y := xs 3) rfl ?_
  refine rn_aload_n dL_law_795 rfl ?_
  refine rn_callSW dL_law_796 csw_L_132 (w_exception_x2 ((x_exc_sort2 eb ec) hl Fr_0 h0 hk) (by decide) (by decide)) rfl (by decide) (by decide) rfl (Nat.le_of_ble_eq_true rfl) ?_
  refine rn_h (h2 := (wd s0 (mdl (j_a0 D) 0 0 0 ++ [ol 0, od 0, j_x 2]), 6544 + 6)) rfl ?_
  refine rn_istore dL_law_799 (by decide) rfl ?_
  refine rn_aload_n dL_law_801 rfl ?_
  refine rn_aload_n dL_law_802 rfl ?_
  refine rn_iload dL_law_803 rfl ?_
  refine rn_iconst (v := 1) dL_law_805 rfl ?_
  refine rn_iadd dL_law_806 ?_
  refine rn_topi (y := 1) (by decide) ?_
  refine rn_sld dL_law_807 (by unfold vp_in; decide) ?_
  refine rn_topi (y := xs 1) rfl ?_
  refine rn_aload_n dL_law_808 rfl ?_
  refine rn_iload dL_law_809 rfl ?_
  refine rn_iconst (v := 2) dL_law_811 rfl ?_
  refine rn_iadd dL_law_812 ?_
  refine rn_topi (y := 2) (by decide) ?_
  refine rn_sld dL_law_813 (by unfold vp_in; decide) ?_
  refine rn_topi (y := xs 2) rfl ?_
  refine rn_aload_n dL_law_814 rfl ?_
  refine rn_iload dL_law_815 rfl ?_
  refine rn_iconst (v := 3) dL_law_817 rfl ?_
  refine rn_iadd dL_law_818 ?_
  refine rn_topi (y := 3) (by decide) ?_
  refine rn_sld dL_law_819 (by unfold vp_in; decide) ?_
  refine rn_topi (y := xs 3) rfl ?_
  refine rn_callV dL_law_820 cv_L_134 (c_X11_exc_sort2 eb ec (G := gW s0) (U := [ol 0, od 0, j_x 2]) (u := 3) gW_len rfl h0 hk) rfl (wd_E (i := 0) rfl) rfl rfl (by decide) (by decide) rfl (Nat.le_of_ble_eq_true rfl) ?_
  refine rn_h (h2 := (wd s0 (mdl (j_a0 D) 3 0 0 ++ [ol 0, od 0, j_x 2]), 6544 + 6)) rfl ?_
  refine rn_istore dL_law_823 (by decide) rfl ?_
  refine rn_aload_n dL_law_825 rfl ?_
  refine rn_callV dL_law_826 cv_L_105 (c_X11_thrown (i := 84) (t := 3) (wd_E (i := 0) rfl)) rfl (wd_E (i := 0) rfl) rfl rfl (by decide) (by decide) rfl (Nat.le_of_ble_eq_true rfl) ?_
  refine rn_iload dL_law_829 rfl ?_
  refine rn_icmp_eq (tgt := 836) dL_law_831 rfl (fun _ => ?_) (fun q => absurd (by decide) q)
  refine rn_iload dL_law_836 rfl ?_
  refine rn_if_ne (tgt := 853) dL_law_838 rfl (fun _ => ?_) (fun q => absurd q (by decide))
  refine rn_goto (tgt := 2228) dL_law_853 rfl ?_
  exact law_tail rfl rfl
set_option maxRecDepth 20000 in
theorem la_8_n (hl : l.stackTraces = false) (eb : xs 2 = -1) (ec : xs 3 = -1) (h0 : ¬ xs 1 = 0) (hk : 2 ≤ xs 1 ∧ xs 1 ≤ 4) : ∃ h' : j_H, (h'.1.length ≤ 400 ∧ h'.2 ≤ 20000) ∧ Rn l D ad tc 6 xs mL_law 200 6000 776 [(5, .int 0), (4, .ref 93), (3, .ref 92), (2, .ref 85), (1, .ref 1), (0, .ref 0)] [] (wd s0 (mdl (j_a0 D) 0 0 0 ++ [ol 0, od 0]), 6544) (some (.int 1)) h' := by
  obtain ⟨S', hc⟩ : ∃ S' : jS, Cn l D ad tc 6 xs mX9_exception 1 24 [.ref 1, .int (xs 1), .int (xs 2), .int (xs 3)] (wd s0 (mdl (j_a0 D) 0 0 0 ++ [ol 0, od 0]), 6544) (some (.int 0)) (wd S' (mdl (j_a0 D) 0 0 0 ++ [ol 0, od 0]), 6544) := ⟨_, by rw [eb, ec]; exact f_exc_n Fr_0 h0 hk⟩
  refine ⟨(wd S' (((mdl (j_a0 D) 0 0 0 ++ [ol ((0 : Int32).toInt64), od 0]) ++ [ia 3 (upd (upd (upd (fun _ => 0) 0 (xs 1)) 1 (-1)) 2 (-1))]).set 4 (cAL 1 (84 + (7 + 2 + 1) + 1) 1) ++ [oAL (va_up (fun _ => none) 0 (some (84 + (7 + 2) + 1)))]), 6544 + 3 + 10), ⟨by simp [wd_len, mdl, lkT], Nat.le_of_ble_eq_true rfl⟩, ?_⟩
  refine rn_aload_n dL_law_776 rfl ?_
  refine rn_aload_n dL_law_777 rfl ?_
  refine rn_iload dL_law_778 rfl ?_
  refine rn_iconst (v := 1) dL_law_780 rfl ?_
  refine rn_iadd dL_law_781 ?_
  refine rn_topi (y := 1) (by decide) ?_
  refine rn_sld dL_law_782 (by unfold vp_in; decide) ?_
  refine rn_topi (y := xs 1) rfl ?_
  refine rn_aload_n dL_law_783 rfl ?_
  refine rn_iload dL_law_784 rfl ?_
  refine rn_iconst (v := 2) dL_law_786 rfl ?_
  refine rn_iadd dL_law_787 ?_
  refine rn_topi (y := 2) (by decide) ?_
  refine rn_sld dL_law_788 (by unfold vp_in; decide) ?_
  refine rn_topi (y := xs 2) rfl ?_
  refine rn_aload_n dL_law_789 rfl ?_
  refine rn_iload dL_law_790 rfl ?_
  refine rn_iconst (v := 3) dL_law_792 rfl ?_
  refine rn_iadd dL_law_793 ?_
  refine rn_topi (y := 3) (by decide) ?_
  refine rn_sld dL_law_794 (by unfold vp_in; decide) ?_
  refine rn_topi (y := xs 3) rfl ?_
  refine rn_aload_n dL_law_795 rfl ?_
  refine rn_callSW dL_law_796 csw_L_132 (w_exception_ok (w := 0) rfl hc (by decide) (by decide)) rfl (by decide) (by decide) rfl (Nat.le_of_ble_eq_true rfl) ?_
  refine rn_h (h2 := (wd S' (mdl (j_a0 D) 0 0 0 ++ [ol ((0 : Int32).toInt64), od 0]), 6544)) rfl ?_
  refine rn_istore dL_law_799 (by decide) rfl ?_
  refine rn_aload_n dL_law_801 rfl ?_
  refine rn_aload_n dL_law_802 rfl ?_
  refine rn_iload dL_law_803 rfl ?_
  refine rn_iconst (v := 1) dL_law_805 rfl ?_
  refine rn_iadd dL_law_806 ?_
  refine rn_topi (y := 1) (by decide) ?_
  refine rn_sld dL_law_807 (by unfold vp_in; decide) ?_
  refine rn_topi (y := xs 1) rfl ?_
  refine rn_aload_n dL_law_808 rfl ?_
  refine rn_iload dL_law_809 rfl ?_
  refine rn_iconst (v := 2) dL_law_811 rfl ?_
  refine rn_iadd dL_law_812 ?_
  refine rn_topi (y := 2) (by decide) ?_
  refine rn_sld dL_law_813 (by unfold vp_in; decide) ?_
  refine rn_topi (y := xs 2) rfl ?_
  refine rn_aload_n dL_law_814 rfl ?_
  refine rn_iload dL_law_815 rfl ?_
  refine rn_iconst (v := 3) dL_law_817 rfl ?_
  refine rn_iadd dL_law_818 ?_
  refine rn_topi (y := 3) (by decide) ?_
  refine rn_sld dL_law_819 (by unfold vp_in; decide) ?_
  refine rn_topi (y := xs 3) rfl ?_
  refine rn_callV dL_law_820 cv_L_134 (c_X11_exc_n2 eb ec (G := gW S') (U := [ol ((0 : Int32).toInt64), od 0]) (u := 2) gW_len rfl h0 hk) rfl (wd_E (i := 0) rfl) rfl rfl (by decide) (by decide) rfl (Nat.le_of_ble_eq_true rfl) ?_
  refine rn_h (h2 := (wd S' (((mdl (j_a0 D) 0 0 0 ++ [ol ((0 : Int32).toInt64), od 0]) ++ [ia 3 (upd (upd (upd (fun _ => 0) 0 (xs 1)) 1 (-1)) 2 (-1))]).set 4 (cAL 1 (84 + (7 + 2 + 1) + 1) 1) ++ [oAL (va_up (fun _ => none) 0 (some (84 + (7 + 2) + 1)))]), 6544 + 3 + 10)) rfl ?_
  refine rn_istore dL_law_823 (by decide) rfl ?_
  refine rn_aload_n dL_law_825 rfl ?_
  refine rn_callV dL_law_826 cv_L_105 (c_X11_thrown (i := 84) (t := 0) (wd_E (i := 0) rfl)) rfl (wd_E (i := 0) rfl) rfl rfl (by decide) (by decide) rfl (Nat.le_of_ble_eq_true rfl) ?_
  refine rn_iload dL_law_829 rfl ?_
  refine rn_icmp_eq (tgt := 836) dL_law_831 rfl (fun _ => ?_) (fun q => absurd (by decide) q)
  refine rn_iload dL_law_836 rfl ?_
  refine rn_if_ne (tgt := 853) dL_law_838 rfl (fun q => absurd q (by decide)) (fun _ => ?_)
  refine rn_aload_n dL_law_841 rfl ?_
  refine rn_iconst (v := 0) dL_law_842 rfl ?_
  refine rn_laload (a := 84 + 7) dL_law_843 (wd_E (c := ol ((0 : Int32).toInt64)) (i := 7) rfl) rfl (by unfold vp_in; decide) ?_
  refine rn_topl (y := ((0 : Int32).toInt64)) rfl ?_
  refine rn_iload dL_law_844 rfl ?_
  refine rn_i2l dL_law_846 rfl ?_
  refine rn_lcmp dL_law_847 ?_
  refine rn_topi (y := 0) (by decide +kernel) ?_
  refine rn_if_eq (tgt := 853) dL_law_848 rfl (fun _ => ?_) (fun q => absurd (by decide) q)
  refine rn_goto (tgt := 2228) dL_law_853 rfl ?_
  exact law_tail rfl rfl
set_option maxRecDepth 20000 in
theorem la_8_z (hl : l.stackTraces = false) (eb : xs 2 = -1) (ec : xs 3 = -1) (e0 : xs 1 = 0) : ∃ h' : j_H, (h'.1.length ≤ 400 ∧ h'.2 ≤ 20000) ∧ Rn l D ad tc 6 xs mL_law 200 6000 776 [(5, .int 0), (4, .ref 93), (3, .ref 92), (2, .ref 85), (1, .ref 1), (0, .ref 0)] [] (wd s0 (mdl (j_a0 D) 0 0 0 ++ [ol 0, od 0]), 6544) (some (.int 1)) h' := by
  obtain ⟨S', hc⟩ : ∃ S' : jS, Cn l D ad tc 6 xs mX9_exception 1 24 [.ref 1, .int (xs 1), .int (xs 2), .int (xs 3)] (wd s0 (mdl (j_a0 D) 0 0 0 ++ [ol 0, od 0]), 6544) (some (.int 0)) (wd S' (mdl (j_a0 D) 0 0 0 ++ [ol 0, od 0]), 6544) := ⟨_, by rw [eb, ec, e0]; exact f_exc_0 Fr_0⟩
  refine ⟨(wd S' (((mdl (j_a0 D) 0 0 0 ++ [ol ((0 : Int32).toInt64), od 0]) ++ [ia 3 (upd (upd (upd (fun _ => 0) 0 0) 1 (-1)) 2 (-1))]).set 4 (cAL 1 (84 + (7 + 2 + 1) + 1) 1) ++ [oAL (va_up (fun _ => none) 0 (some (84 + (7 + 2) + 1)))]), 6544 + 3 + 10), ⟨by simp [wd_len, mdl, lkT], Nat.le_of_ble_eq_true rfl⟩, ?_⟩
  refine rn_aload_n dL_law_776 rfl ?_
  refine rn_aload_n dL_law_777 rfl ?_
  refine rn_iload dL_law_778 rfl ?_
  refine rn_iconst (v := 1) dL_law_780 rfl ?_
  refine rn_iadd dL_law_781 ?_
  refine rn_topi (y := 1) (by decide) ?_
  refine rn_sld dL_law_782 (by unfold vp_in; decide) ?_
  refine rn_topi (y := xs 1) rfl ?_
  refine rn_aload_n dL_law_783 rfl ?_
  refine rn_iload dL_law_784 rfl ?_
  refine rn_iconst (v := 2) dL_law_786 rfl ?_
  refine rn_iadd dL_law_787 ?_
  refine rn_topi (y := 2) (by decide) ?_
  refine rn_sld dL_law_788 (by unfold vp_in; decide) ?_
  refine rn_topi (y := xs 2) rfl ?_
  refine rn_aload_n dL_law_789 rfl ?_
  refine rn_iload dL_law_790 rfl ?_
  refine rn_iconst (v := 3) dL_law_792 rfl ?_
  refine rn_iadd dL_law_793 ?_
  refine rn_topi (y := 3) (by decide) ?_
  refine rn_sld dL_law_794 (by unfold vp_in; decide) ?_
  refine rn_topi (y := xs 3) rfl ?_
  refine rn_aload_n dL_law_795 rfl ?_
  refine rn_callSW dL_law_796 csw_L_132 (w_exception_ok (w := 0) rfl hc (by decide) (by decide)) rfl (by decide) (by decide) rfl (Nat.le_of_ble_eq_true rfl) ?_
  refine rn_h (h2 := (wd S' (mdl (j_a0 D) 0 0 0 ++ [ol ((0 : Int32).toInt64), od 0]), 6544)) rfl ?_
  refine rn_istore dL_law_799 (by decide) rfl ?_
  refine rn_aload_n dL_law_801 rfl ?_
  refine rn_aload_n dL_law_802 rfl ?_
  refine rn_iload dL_law_803 rfl ?_
  refine rn_iconst (v := 1) dL_law_805 rfl ?_
  refine rn_iadd dL_law_806 ?_
  refine rn_topi (y := 1) (by decide) ?_
  refine rn_sld dL_law_807 (by unfold vp_in; decide) ?_
  refine rn_topi (y := xs 1) rfl ?_
  refine rn_aload_n dL_law_808 rfl ?_
  refine rn_iload dL_law_809 rfl ?_
  refine rn_iconst (v := 2) dL_law_811 rfl ?_
  refine rn_iadd dL_law_812 ?_
  refine rn_topi (y := 2) (by decide) ?_
  refine rn_sld dL_law_813 (by unfold vp_in; decide) ?_
  refine rn_topi (y := xs 2) rfl ?_
  refine rn_aload_n dL_law_814 rfl ?_
  refine rn_iload dL_law_815 rfl ?_
  refine rn_iconst (v := 3) dL_law_817 rfl ?_
  refine rn_iadd dL_law_818 ?_
  refine rn_topi (y := 3) (by decide) ?_
  refine rn_sld dL_law_819 (by unfold vp_in; decide) ?_
  refine rn_topi (y := xs 3) rfl ?_
  refine rn_callV dL_law_820 cv_L_134 (c_X11_exc_02 eb ec e0 (G := gW S') (U := [ol ((0 : Int32).toInt64), od 0]) (u := 2) gW_len rfl) rfl (wd_E (i := 0) rfl) rfl rfl (by decide) (by decide) rfl (Nat.le_of_ble_eq_true rfl) ?_
  refine rn_h (h2 := (wd S' (((mdl (j_a0 D) 0 0 0 ++ [ol ((0 : Int32).toInt64), od 0]) ++ [ia 3 (upd (upd (upd (fun _ => 0) 0 0) 1 (-1)) 2 (-1))]).set 4 (cAL 1 (84 + (7 + 2 + 1) + 1) 1) ++ [oAL (va_up (fun _ => none) 0 (some (84 + (7 + 2) + 1)))]), 6544 + 3 + 10)) rfl ?_
  refine rn_istore dL_law_823 (by decide) rfl ?_
  refine rn_aload_n dL_law_825 rfl ?_
  refine rn_callV dL_law_826 cv_L_105 (c_X11_thrown (i := 84) (t := 0) (wd_E (i := 0) rfl)) rfl (wd_E (i := 0) rfl) rfl rfl (by decide) (by decide) rfl (Nat.le_of_ble_eq_true rfl) ?_
  refine rn_iload dL_law_829 rfl ?_
  refine rn_icmp_eq (tgt := 836) dL_law_831 rfl (fun _ => ?_) (fun q => absurd (by decide) q)
  refine rn_iload dL_law_836 rfl ?_
  refine rn_if_ne (tgt := 853) dL_law_838 rfl (fun q => absurd q (by decide)) (fun _ => ?_)
  refine rn_aload_n dL_law_841 rfl ?_
  refine rn_iconst (v := 0) dL_law_842 rfl ?_
  refine rn_laload (a := 84 + 7) dL_law_843 (wd_E (c := ol ((0 : Int32).toInt64)) (i := 7) rfl) rfl (by unfold vp_in; decide) ?_
  refine rn_topl (y := ((0 : Int32).toInt64)) rfl ?_
  refine rn_iload dL_law_844 rfl ?_
  refine rn_i2l dL_law_846 rfl ?_
  refine rn_lcmp dL_law_847 ?_
  refine rn_topi (y := 0) (by decide +kernel) ?_
  refine rn_if_eq (tgt := 853) dL_law_848 rfl (fun _ => ?_) (fun q => absurd (by decide) q)
  refine rn_goto (tgt := 2228) dL_law_853 rfl ?_
  exact law_tail rfl rfl
set_option maxRecDepth 20000 in
theorem la_9_s0 (hl : l.stackTraces = false) (z1 : xs 1 = 0) : ∃ h' : j_H, (h'.1.length ≤ 400 ∧ h'.2 ≤ 20000) ∧ Rn l D ad tc 6 xs mL_law 200 6000 856 [(5, .int 0), (4, .ref 93), (3, .ref 92), (2, .ref 85), (1, .ref 1), (0, .ref 0)] [] (wd s0 (mdl (j_a0 D) 0 0 0 ++ [ol 0, od 0]), 6544) (some (.int 1)) h' := by
  refine ⟨(wd (pI s0 0 2 0) (mdl (j_a0 D) 0 0 0 ++ [ol 0, od 0]), 6544), ⟨by simp [wd_len, mdl, lkT], Nat.le_of_ble_eq_true rfl⟩, ?_⟩
  refine rn_aload_n dL_law_856 rfl ?_
  refine rn_aload_n dL_law_857 rfl ?_
  refine rn_iload dL_law_858 rfl ?_
  refine rn_iconst (v := 1) dL_law_860 rfl ?_
  refine rn_iadd dL_law_861 ?_
  refine rn_topi (y := 1) (by decide) ?_
  refine rn_sld dL_law_862 (by unfold vp_in; decide) ?_
  refine rn_topi (y := xs 1) rfl ?_
  refine rn_if_eq (tgt := 870) dL_law_863 rfl (fun _ => ?_) (fun q => absurd z1 q)
  refine rn_iconst (v := 0) dL_law_870 rfl ?_
  refine rn_callV dL_law_871 cv_L_135 (f_sign_0 Fr_0) rfl h_SH rfl rfl (by decide) (by decide) rfl (Nat.le_of_ble_eq_true rfl) ?_
  refine rn_h (h2 := (wd (pI s0 0 2 0) (mdl (j_a0 D) 0 0 0 ++ [ol 0, od 0]), 6544)) rfl ?_
  refine rn_aload_n dL_law_874 rfl ?_
  refine rn_aload_n dL_law_875 rfl ?_
  refine rn_iload dL_law_876 rfl ?_
  refine rn_iconst (v := 1) dL_law_878 rfl ?_
  refine rn_iadd dL_law_879 ?_
  refine rn_topi (y := 1) (by decide) ?_
  refine rn_sld dL_law_880 (by unfold vp_in; decide) ?_
  refine rn_topi (y := xs 1) rfl ?_
  refine rn_if_eq (tgt := 888) dL_law_881 rfl (fun _ => ?_) (fun q => absurd z1 q)
  refine rn_iconst (v := 0) dL_law_888 rfl ?_
  refine rn_callV dL_law_889 cv_L_139 (c_X11_sign_0 (a := 0) (G := gW (pI s0 0 2 0)) (U := [ol 0, od 0]) (u := 2) gW_len rfl) rfl (wd_E (i := 0) rfl) rfl rfl (by decide) (by decide) rfl (Nat.le_of_ble_eq_true rfl) ?_
  refine rn_h (h2 := (wd (pI s0 0 2 0) (mdl (j_a0 D) 0 0 0 ++ [ol 0, od 0]), 6544)) rfl ?_
  refine rn_icmp_eq (tgt := 2228) dL_law_892 rfl (fun _ => ?_) (fun q => absurd (by decide) q)
  exact law_tail rfl rfl
set_option maxRecDepth 20000 in
theorem la_9_s1 (hl : l.stackTraces = false) (z1 : ¬ xs 1 = 0) : ∃ h' : j_H, (h'.1.length ≤ 400 ∧ h'.2 ≤ 20000) ∧ Rn l D ad tc 6 xs mL_law 200 6000 856 [(5, .int 0), (4, .ref 93), (3, .ref 92), (2, .ref 85), (1, .ref 1), (0, .ref 0)] [] (wd s0 (mdl (j_a0 D) 0 0 0 ++ [ol 0, od 0]), 6544) (some (.int 1)) h' := by
  refine ⟨(wd (pI s0 0 2 1) (mdl (j_a0 D) 0 1 0 ++ [ol 0, od 0]), 6544), ⟨by simp [wd_len, mdl, lkT], Nat.le_of_ble_eq_true rfl⟩, ?_⟩
  refine rn_aload_n dL_law_856 rfl ?_
  refine rn_aload_n dL_law_857 rfl ?_
  refine rn_iload dL_law_858 rfl ?_
  refine rn_iconst (v := 1) dL_law_860 rfl ?_
  refine rn_iadd dL_law_861 ?_
  refine rn_topi (y := 1) (by decide) ?_
  refine rn_sld dL_law_862 (by unfold vp_in; decide) ?_
  refine rn_topi (y := xs 1) rfl ?_
  refine rn_if_eq (tgt := 870) dL_law_863 rfl (fun q => absurd q z1) (fun _ => ?_)
  refine rn_iconst (v := 1) dL_law_866 rfl ?_
  refine rn_goto (tgt := 871) dL_law_867 rfl ?_
  refine rn_callV dL_law_871 cv_L_135 (f_sign_1 Fr_0) rfl h_SH rfl rfl (by decide) (by decide) rfl (Nat.le_of_ble_eq_true rfl) ?_
  refine rn_h (h2 := (wd (pI s0 0 2 1) (mdl (j_a0 D) 0 0 0 ++ [ol 0, od 0]), 6544)) rfl ?_
  refine rn_aload_n dL_law_874 rfl ?_
  refine rn_aload_n dL_law_875 rfl ?_
  refine rn_iload dL_law_876 rfl ?_
  refine rn_iconst (v := 1) dL_law_878 rfl ?_
  refine rn_iadd dL_law_879 ?_
  refine rn_topi (y := 1) (by decide) ?_
  refine rn_sld dL_law_880 (by unfold vp_in; decide) ?_
  refine rn_topi (y := xs 1) rfl ?_
  refine rn_if_eq (tgt := 888) dL_law_881 rfl (fun q => absurd q z1) (fun _ => ?_)
  refine rn_iconst (v := 1) dL_law_884 rfl ?_
  refine rn_goto (tgt := 889) dL_law_885 rfl ?_
  refine rn_callV dL_law_889 cv_L_139 (c_X11_sign_1 (a := 0) (G := gW (pI s0 0 2 1)) (U := [ol 0, od 0]) (u := 2) gW_len rfl) rfl (wd_E (i := 0) rfl) rfl rfl (by decide) (by decide) rfl (Nat.le_of_ble_eq_true rfl) ?_
  refine rn_h (h2 := (wd (pI s0 0 2 1) (mdl (j_a0 D) 0 1 0 ++ [ol 0, od 0]), 6544)) rfl ?_
  refine rn_icmp_eq (tgt := 2228) dL_law_892 rfl (fun _ => ?_) (fun q => absurd (by decide) q)
  exact law_tail rfl rfl
set_option maxRecDepth 20000 in
theorem la_10_k (hl : l.stackTraces = false)  : ∃ h' : j_H, (h'.1.length ≤ 400 ∧ h'.2 ≤ 20000) ∧ Rn l D ad tc 6 xs mL_law 200 6000 897 [(5, .int 0), (4, .ref 93), (3, .ref 92), (2, .ref 85), (1, .ref 1), (0, .ref 0)] [] (wd s0 (mdl (j_a0 D) 0 0 0 ++ [ol 0, od 0]), 6544) (some (.int 1)) h' := by
  refine ⟨(wd (pI s0 0 3 1) (mdl (j_a0 D) 0 0 1 ++ [ol 0, od 0]), 6544), ⟨by simp [wd_len, mdl, lkT], Nat.le_of_ble_eq_true rfl⟩, ?_⟩
  refine rn_aload_n dL_law_897 rfl ?_
  refine rn_callV dL_law_898 cv_L_140 (f_knock Fr_0) rfl h_SH rfl rfl (by decide) (by decide) rfl (Nat.le_of_ble_eq_true rfl) ?_
  refine rn_h (h2 := (wd (pI s0 0 3 1) (mdl (j_a0 D) 0 0 0 ++ [ol 0, od 0]), 6544)) rfl ?_
  refine rn_aload_n dL_law_901 rfl ?_
  refine rn_callV dL_law_902 cv_L_143 (c_X11_knock (G := gW (pI s0 0 3 1)) (U := [ol 0, od 0]) (u := 2) gW_len rfl) rfl (wd_E (i := 0) rfl) rfl rfl (by decide) (by decide) rfl (Nat.le_of_ble_eq_true rfl) ?_
  refine rn_h (h2 := (wd (pI s0 0 3 1) (mdl (j_a0 D) 0 0 1 ++ [ol 0, od 0]), 6544)) rfl ?_
  refine rn_icmp_eq (tgt := 2228) dL_law_905 rfl (fun _ => ?_) (fun q => absurd (by decide) q)
  exact law_tail rfl rfl
set_option maxRecDepth 20000 in
theorem la_11_no (hl : l.stackTraces = false)  : ∃ h' : j_H, (h'.1.length ≤ 400 ∧ h'.2 ≤ 20000) ∧ Rn l D ad tc 6 xs mL_law 200 6000 910 [(5, .int 0), (4, .ref 93), (3, .ref 92), (2, .ref 85), (1, .ref 1), (0, .ref 0)] [] (wd s0 (mdl (j_a0 D) 0 0 0 ++ [ol 0, od 0]), 6544) (some (.int 1)) h' := by
  refine ⟨(wd s0 (mdl (j_a0 D) 1 0 0 ++ [ol 0, od 0, j_x 1]), 6544 + 6), ⟨by simp [wd_len, mdl, lkT], Nat.le_of_ble_eq_true rfl⟩, ?_⟩
  refine rn_aload_n dL_law_910 rfl ?_
  refine rn_aload_n dL_law_911 rfl ?_
  refine rn_iload dL_law_912 rfl ?_
  refine rn_iconst (v := 1) dL_law_914 rfl ?_
  refine rn_iadd dL_law_915 ?_
  refine rn_topi (y := 1) (by decide) ?_
  refine rn_sld dL_law_916 (by unfold vp_in; decide) ?_
  refine rn_topi (y := xs 1) rfl ?_
  refine rn_aload_n dL_law_917 rfl ?_
  refine rn_iload dL_law_918 rfl ?_
  refine rn_iconst (v := 2) dL_law_920 rfl ?_
  refine rn_iadd dL_law_921 ?_
  refine rn_topi (y := 2) (by decide) ?_
  refine rn_sld dL_law_922 (by unfold vp_in; decide) ?_
  refine rn_topi (y := xs 2) rfl ?_
  refine rn_aload_n dL_law_923 rfl ?_
  refine rn_callSW dL_law_924 csw_L_144 (w_ofClock_x1 (x_ofClock hl Fr_0) (by decide) (by decide)) rfl (by decide) (by decide) rfl (Nat.le_of_ble_eq_true rfl) ?_
  refine rn_h (h2 := (wd s0 (mdl (j_a0 D) 0 0 0 ++ [ol 0, od 0, j_x 1]), 6544 + 6)) rfl ?_
  refine rn_istore dL_law_927 (by decide) rfl ?_
  refine rn_aload_n dL_law_929 rfl ?_
  refine rn_aload_n dL_law_930 rfl ?_
  refine rn_iload dL_law_931 rfl ?_
  refine rn_iconst (v := 1) dL_law_933 rfl ?_
  refine rn_iadd dL_law_934 ?_
  refine rn_topi (y := 1) (by decide) ?_
  refine rn_sld dL_law_935 (by unfold vp_in; decide) ?_
  refine rn_topi (y := xs 1) rfl ?_
  refine rn_aload_n dL_law_936 rfl ?_
  refine rn_iload dL_law_937 rfl ?_
  refine rn_iconst (v := 2) dL_law_939 rfl ?_
  refine rn_iadd dL_law_940 ?_
  refine rn_topi (y := 2) (by decide) ?_
  refine rn_sld dL_law_941 (by unfold vp_in; decide) ?_
  refine rn_topi (y := xs 2) rfl ?_
  refine rn_callV dL_law_942 cv_L_146 (c_X11_ofClock (G := gW s0) (U := [ol 0, od 0, j_x 1]) (u := 3) gW_len rfl) rfl (wd_E (i := 0) rfl) rfl rfl (by decide) (by decide) rfl (Nat.le_of_ble_eq_true rfl) ?_
  refine rn_h (h2 := (wd s0 (mdl (j_a0 D) 1 0 0 ++ [ol 0, od 0, j_x 1]), 6544 + 6)) rfl ?_
  refine rn_istore dL_law_945 (by decide) rfl ?_
  refine rn_aload_n dL_law_947 rfl ?_
  refine rn_callV dL_law_948 cv_L_105 (c_X11_thrown (i := 84) (t := 1) (wd_E (i := 0) rfl)) rfl (wd_E (i := 0) rfl) rfl rfl (by decide) (by decide) rfl (Nat.le_of_ble_eq_true rfl) ?_
  refine rn_iload dL_law_951 rfl ?_
  refine rn_icmp_eq (tgt := 958) dL_law_953 rfl (fun _ => ?_) (fun q => absurd (by decide) q)
  refine rn_iload dL_law_958 rfl ?_
  refine rn_if_ne (tgt := 975) dL_law_960 rfl (fun _ => ?_) (fun q => absurd q (by decide))
  refine rn_goto (tgt := 2228) dL_law_975 rfl ?_
  exact law_tail rfl rfl
set_option maxRecDepth 20000 in
theorem la_12_no (hl : l.stackTraces = false)  : ∃ h' : j_H, (h'.1.length ≤ 400 ∧ h'.2 ≤ 20000) ∧ Rn l D ad tc 6 xs mL_law 200 6000 978 [(5, .int 0), (4, .ref 93), (3, .ref 92), (2, .ref 85), (1, .ref 1), (0, .ref 0)] [] (wd s0 (mdl (j_a0 D) 0 0 0 ++ [ol 0, od 0]), 6544) (some (.int 1)) h' := by
  refine ⟨(wd s0 (mdl (j_a0 D) 1 0 0 ++ [ol 0, od 0, j_x 1]), 6544 + 6), ⟨by simp [wd_len, mdl, lkT], Nat.le_of_ble_eq_true rfl⟩, ?_⟩
  refine rn_aload_n dL_law_978 rfl ?_
  refine rn_aload_n dL_law_979 rfl ?_
  refine rn_iload dL_law_980 rfl ?_
  refine rn_iconst (v := 1) dL_law_982 rfl ?_
  refine rn_iadd dL_law_983 ?_
  refine rn_topi (y := 1) (by decide) ?_
  refine rn_sld dL_law_984 (by unfold vp_in; decide) ?_
  refine rn_topi (y := xs 1) rfl ?_
  refine rn_aload_n dL_law_985 rfl ?_
  refine rn_iload dL_law_986 rfl ?_
  refine rn_iconst (v := 2) dL_law_988 rfl ?_
  refine rn_iadd dL_law_989 ?_
  refine rn_topi (y := 2) (by decide) ?_
  refine rn_sld dL_law_990 (by unfold vp_in; decide) ?_
  refine rn_topi (y := xs 2) rfl ?_
  refine rn_aload_n dL_law_991 rfl ?_
  refine rn_callSW dL_law_992 csw_L_147 (w_ofNode_x1 (x_ofNode hl Fr_0) (by decide) (by decide)) rfl (by decide) (by decide) rfl (Nat.le_of_ble_eq_true rfl) ?_
  refine rn_h (h2 := (wd s0 (mdl (j_a0 D) 0 0 0 ++ [ol 0, od 0, j_x 1]), 6544 + 6)) rfl ?_
  refine rn_istore dL_law_995 (by decide) rfl ?_
  refine rn_aload_n dL_law_997 rfl ?_
  refine rn_aload_n dL_law_998 rfl ?_
  refine rn_iload dL_law_999 rfl ?_
  refine rn_iconst (v := 1) dL_law_1001 rfl ?_
  refine rn_iadd dL_law_1002 ?_
  refine rn_topi (y := 1) (by decide) ?_
  refine rn_sld dL_law_1003 (by unfold vp_in; decide) ?_
  refine rn_topi (y := xs 1) rfl ?_
  refine rn_aload_n dL_law_1004 rfl ?_
  refine rn_iload dL_law_1005 rfl ?_
  refine rn_iconst (v := 2) dL_law_1007 rfl ?_
  refine rn_iadd dL_law_1008 ?_
  refine rn_topi (y := 2) (by decide) ?_
  refine rn_sld dL_law_1009 (by unfold vp_in; decide) ?_
  refine rn_topi (y := xs 2) rfl ?_
  refine rn_callV dL_law_1010 cv_L_149 (c_X11_ofNode (G := gW s0) (U := [ol 0, od 0, j_x 1]) (u := 3) gW_len rfl) rfl (wd_E (i := 0) rfl) rfl rfl (by decide) (by decide) rfl (Nat.le_of_ble_eq_true rfl) ?_
  refine rn_h (h2 := (wd s0 (mdl (j_a0 D) 1 0 0 ++ [ol 0, od 0, j_x 1]), 6544 + 6)) rfl ?_
  refine rn_istore dL_law_1013 (by decide) rfl ?_
  refine rn_aload_n dL_law_1015 rfl ?_
  refine rn_callV dL_law_1016 cv_L_105 (c_X11_thrown (i := 84) (t := 1) (wd_E (i := 0) rfl)) rfl (wd_E (i := 0) rfl) rfl rfl (by decide) (by decide) rfl (Nat.le_of_ble_eq_true rfl) ?_
  refine rn_iload dL_law_1019 rfl ?_
  refine rn_icmp_eq (tgt := 1026) dL_law_1021 rfl (fun _ => ?_) (fun q => absurd (by decide) q)
  refine rn_iload dL_law_1026 rfl ?_
  refine rn_if_ne (tgt := 1043) dL_law_1028 rfl (fun _ => ?_) (fun q => absurd q (by decide))
  refine rn_goto (tgt := 2228) dL_law_1043 rfl ?_
  exact law_tail rfl rfl
set_option maxRecDepth 20000 in
theorem la_13_no (hl : l.stackTraces = false)  : ∃ h' : j_H, (h'.1.length ≤ 400 ∧ h'.2 ≤ 20000) ∧ Rn l D ad tc 6 xs mL_law 200 6000 1046 [(5, .int 0), (4, .ref 93), (3, .ref 92), (2, .ref 85), (1, .ref 1), (0, .ref 0)] [] (wd s0 (mdl (j_a0 D) 0 0 0 ++ [ol 0, od 0]), 6544) (some (.int 1)) h' := by
  refine ⟨(wd s0 (mdl (j_a0 D) 1 0 0 ++ [ol 0, od 0, j_x 1]), 6544 + 6), ⟨by simp [wd_len, mdl, lkT], Nat.le_of_ble_eq_true rfl⟩, ?_⟩
  refine rn_aload_n dL_law_1046 rfl ?_
  refine rn_aload_n dL_law_1047 rfl ?_
  refine rn_iload dL_law_1048 rfl ?_
  refine rn_iconst (v := 1) dL_law_1050 rfl ?_
  refine rn_iadd dL_law_1051 ?_
  refine rn_topi (y := 1) (by decide) ?_
  refine rn_sld dL_law_1052 (by unfold vp_in; decide) ?_
  refine rn_topi (y := xs 1) rfl ?_
  refine rn_aload dL_law_1053 rfl ?_
  refine rn_callSW dL_law_1055 csw_L_150 (w_load_x1 (x_load hl Fr_0) (by decide) (by decide)) rfl (by decide) (by decide) rfl (Nat.le_of_ble_eq_true rfl) ?_
  refine rn_h (h2 := (wd s0 (mdl (j_a0 D) 0 0 0 ++ [ol 0, od 0, j_x 1]), 6544 + 6)) rfl ?_
  refine rn_istore dL_law_1058 (by decide) rfl ?_
  refine rn_aload_n dL_law_1060 rfl ?_
  refine rn_aload_n dL_law_1061 rfl ?_
  refine rn_iload dL_law_1062 rfl ?_
  refine rn_iconst (v := 1) dL_law_1064 rfl ?_
  refine rn_iadd dL_law_1065 ?_
  refine rn_topi (y := 1) (by decide) ?_
  refine rn_sld dL_law_1066 (by unfold vp_in; decide) ?_
  refine rn_topi (y := xs 1) rfl ?_
  refine rn_callV dL_law_1067 cv_L_153 (c_X11_load (G := gW s0) (U := [ol 0, od 0, j_x 1]) (u := 3) gW_len rfl) rfl (wd_E (i := 0) rfl) rfl rfl (by decide) (by decide) rfl (Nat.le_of_ble_eq_true rfl) ?_
  refine rn_h (h2 := (wd s0 (mdl (j_a0 D) 1 0 0 ++ [ol 0, od 0, j_x 1]), 6544 + 6)) rfl ?_
  refine rn_dstore dL_law_1070 (by decide) rfl ?_
  refine rn_aload_n dL_law_1072 rfl ?_
  refine rn_callV dL_law_1073 cv_L_105 (c_X11_thrown (i := 84) (t := 1) (wd_E (i := 0) rfl)) rfl (wd_E (i := 0) rfl) rfl rfl (by decide) (by decide) rfl (Nat.le_of_ble_eq_true rfl) ?_
  refine rn_iload dL_law_1076 rfl ?_
  refine rn_icmp_eq (tgt := 1083) dL_law_1078 rfl (fun _ => ?_) (fun q => absurd (by decide) q)
  refine rn_iload dL_law_1083 rfl ?_
  refine rn_if_ne (tgt := 1120) dL_law_1085 rfl (fun _ => ?_) (fun q => absurd q (by decide))
  refine rn_goto (tgt := 2228) dL_law_1120 rfl ?_
  exact law_tail rfl rfl
set_option maxRecDepth 20000 in
theorem la_14_no0 (hl : l.stackTraces = false)  (z2 : xs 2 = 0) : ∃ h' : j_H, (h'.1.length ≤ 400 ∧ h'.2 ≤ 20000) ∧ Rn l D ad tc 6 xs mL_law 200 6000 1123 [(5, .int 0), (4, .ref 93), (3, .ref 92), (2, .ref 85), (1, .ref 1), (0, .ref 0)] [] (wd s0 (mdl (j_a0 D) 0 0 0 ++ [ol 0, od 0]), 6544) (some (.int 1)) h' := by
  refine ⟨(wd s0 (mdl (j_a0 D) 1 0 0 ++ [ol 0, od 0, j_x 1]), 6544 + 6), ⟨by simp [wd_len, mdl, lkT], Nat.le_of_ble_eq_true rfl⟩, ?_⟩
  refine rn_aload_n dL_law_1123 rfl ?_
  refine rn_aload_n dL_law_1124 rfl ?_
  refine rn_iload dL_law_1125 rfl ?_
  refine rn_iconst (v := 1) dL_law_1127 rfl ?_
  refine rn_iadd dL_law_1128 ?_
  refine rn_topi (y := 1) (by decide) ?_
  refine rn_sld dL_law_1129 (by unfold vp_in; decide) ?_
  refine rn_topi (y := xs 1) rfl ?_
  refine rn_aload_n dL_law_1130 rfl ?_
  refine rn_iload dL_law_1131 rfl ?_
  refine rn_iconst (v := 2) dL_law_1133 rfl ?_
  refine rn_iadd dL_law_1134 ?_
  refine rn_topi (y := 2) (by decide) ?_
  refine rn_sld dL_law_1135 (by unfold vp_in; decide) ?_
  refine rn_topi (y := xs 2) rfl ?_
  refine rn_if_eq (tgt := 1143) dL_law_1136 rfl (fun _ => ?_) (fun q => absurd z2 q)
  refine rn_iconst (v := 0) dL_law_1143 rfl ?_
  refine rn_aload dL_law_1144 rfl ?_
  refine rn_callSW dL_law_1146 csw_L_154 (w_takes_x1 (x_takes hl Fr_0) (by decide) (by decide)) rfl (by decide) (by decide) rfl (Nat.le_of_ble_eq_true rfl) ?_
  refine rn_h (h2 := (wd s0 (mdl (j_a0 D) 0 0 0 ++ [ol 0, od 0, j_x 1]), 6544 + 6)) rfl ?_
  refine rn_istore dL_law_1149 (by decide) rfl ?_
  refine rn_aload_n dL_law_1151 rfl ?_
  refine rn_aload_n dL_law_1152 rfl ?_
  refine rn_iload dL_law_1153 rfl ?_
  refine rn_iconst (v := 1) dL_law_1155 rfl ?_
  refine rn_iadd dL_law_1156 ?_
  refine rn_topi (y := 1) (by decide) ?_
  refine rn_sld dL_law_1157 (by unfold vp_in; decide) ?_
  refine rn_topi (y := xs 1) rfl ?_
  refine rn_aload_n dL_law_1158 rfl ?_
  refine rn_iload dL_law_1159 rfl ?_
  refine rn_iconst (v := 2) dL_law_1161 rfl ?_
  refine rn_iadd dL_law_1162 ?_
  refine rn_topi (y := 2) (by decide) ?_
  refine rn_sld dL_law_1163 (by unfold vp_in; decide) ?_
  refine rn_topi (y := xs 2) rfl ?_
  refine rn_if_eq (tgt := 1171) dL_law_1164 rfl (fun _ => ?_) (fun q => absurd z2 q)
  refine rn_iconst (v := 0) dL_law_1171 rfl ?_
  refine rn_callV dL_law_1172 cv_L_157 (c_X11_takes (G := gW s0) (U := [ol 0, od 0, j_x 1]) (u := 3) gW_len rfl) rfl (wd_E (i := 0) rfl) rfl rfl (by decide) (by decide) rfl (Nat.le_of_ble_eq_true rfl) ?_
  refine rn_h (h2 := (wd s0 (mdl (j_a0 D) 1 0 0 ++ [ol 0, od 0, j_x 1]), 6544 + 6)) rfl ?_
  refine rn_dstore dL_law_1175 (by decide) rfl ?_
  refine rn_aload_n dL_law_1177 rfl ?_
  refine rn_callV dL_law_1178 cv_L_105 (c_X11_thrown (i := 84) (t := 1) (wd_E (i := 0) rfl)) rfl (wd_E (i := 0) rfl) rfl rfl (by decide) (by decide) rfl (Nat.le_of_ble_eq_true rfl) ?_
  refine rn_iload dL_law_1181 rfl ?_
  refine rn_icmp_eq (tgt := 1188) dL_law_1183 rfl (fun _ => ?_) (fun q => absurd (by decide) q)
  refine rn_iload dL_law_1188 rfl ?_
  refine rn_if_ne (tgt := 1225) dL_law_1190 rfl (fun _ => ?_) (fun q => absurd q (by decide))
  refine rn_goto (tgt := 2228) dL_law_1225 rfl ?_
  exact law_tail rfl rfl
set_option maxRecDepth 20000 in
theorem la_14_no1 (hl : l.stackTraces = false)  (z2 : ¬ xs 2 = 0) : ∃ h' : j_H, (h'.1.length ≤ 400 ∧ h'.2 ≤ 20000) ∧ Rn l D ad tc 6 xs mL_law 200 6000 1123 [(5, .int 0), (4, .ref 93), (3, .ref 92), (2, .ref 85), (1, .ref 1), (0, .ref 0)] [] (wd s0 (mdl (j_a0 D) 0 0 0 ++ [ol 0, od 0]), 6544) (some (.int 1)) h' := by
  refine ⟨(wd s0 (mdl (j_a0 D) 1 0 0 ++ [ol 0, od 0, j_x 1]), 6544 + 6), ⟨by simp [wd_len, mdl, lkT], Nat.le_of_ble_eq_true rfl⟩, ?_⟩
  refine rn_aload_n dL_law_1123 rfl ?_
  refine rn_aload_n dL_law_1124 rfl ?_
  refine rn_iload dL_law_1125 rfl ?_
  refine rn_iconst (v := 1) dL_law_1127 rfl ?_
  refine rn_iadd dL_law_1128 ?_
  refine rn_topi (y := 1) (by decide) ?_
  refine rn_sld dL_law_1129 (by unfold vp_in; decide) ?_
  refine rn_topi (y := xs 1) rfl ?_
  refine rn_aload_n dL_law_1130 rfl ?_
  refine rn_iload dL_law_1131 rfl ?_
  refine rn_iconst (v := 2) dL_law_1133 rfl ?_
  refine rn_iadd dL_law_1134 ?_
  refine rn_topi (y := 2) (by decide) ?_
  refine rn_sld dL_law_1135 (by unfold vp_in; decide) ?_
  refine rn_topi (y := xs 2) rfl ?_
  refine rn_if_eq (tgt := 1143) dL_law_1136 rfl (fun q => absurd q z2) (fun _ => ?_)
  refine rn_iconst (v := 1) dL_law_1139 rfl ?_
  refine rn_goto (tgt := 1144) dL_law_1140 rfl ?_
  refine rn_aload dL_law_1144 rfl ?_
  refine rn_callSW dL_law_1146 csw_L_154 (w_takes_x1 (x_takes hl Fr_0) (by decide) (by decide)) rfl (by decide) (by decide) rfl (Nat.le_of_ble_eq_true rfl) ?_
  refine rn_h (h2 := (wd s0 (mdl (j_a0 D) 0 0 0 ++ [ol 0, od 0, j_x 1]), 6544 + 6)) rfl ?_
  refine rn_istore dL_law_1149 (by decide) rfl ?_
  refine rn_aload_n dL_law_1151 rfl ?_
  refine rn_aload_n dL_law_1152 rfl ?_
  refine rn_iload dL_law_1153 rfl ?_
  refine rn_iconst (v := 1) dL_law_1155 rfl ?_
  refine rn_iadd dL_law_1156 ?_
  refine rn_topi (y := 1) (by decide) ?_
  refine rn_sld dL_law_1157 (by unfold vp_in; decide) ?_
  refine rn_topi (y := xs 1) rfl ?_
  refine rn_aload_n dL_law_1158 rfl ?_
  refine rn_iload dL_law_1159 rfl ?_
  refine rn_iconst (v := 2) dL_law_1161 rfl ?_
  refine rn_iadd dL_law_1162 ?_
  refine rn_topi (y := 2) (by decide) ?_
  refine rn_sld dL_law_1163 (by unfold vp_in; decide) ?_
  refine rn_topi (y := xs 2) rfl ?_
  refine rn_if_eq (tgt := 1171) dL_law_1164 rfl (fun q => absurd q z2) (fun _ => ?_)
  refine rn_iconst (v := 1) dL_law_1167 rfl ?_
  refine rn_goto (tgt := 1172) dL_law_1168 rfl ?_
  refine rn_callV dL_law_1172 cv_L_157 (c_X11_takes (G := gW s0) (U := [ol 0, od 0, j_x 1]) (u := 3) gW_len rfl) rfl (wd_E (i := 0) rfl) rfl rfl (by decide) (by decide) rfl (Nat.le_of_ble_eq_true rfl) ?_
  refine rn_h (h2 := (wd s0 (mdl (j_a0 D) 1 0 0 ++ [ol 0, od 0, j_x 1]), 6544 + 6)) rfl ?_
  refine rn_dstore dL_law_1175 (by decide) rfl ?_
  refine rn_aload_n dL_law_1177 rfl ?_
  refine rn_callV dL_law_1178 cv_L_105 (c_X11_thrown (i := 84) (t := 1) (wd_E (i := 0) rfl)) rfl (wd_E (i := 0) rfl) rfl rfl (by decide) (by decide) rfl (Nat.le_of_ble_eq_true rfl) ?_
  refine rn_iload dL_law_1181 rfl ?_
  refine rn_icmp_eq (tgt := 1188) dL_law_1183 rfl (fun _ => ?_) (fun q => absurd (by decide) q)
  refine rn_iload dL_law_1188 rfl ?_
  refine rn_if_ne (tgt := 1225) dL_law_1190 rfl (fun _ => ?_) (fun q => absurd q (by decide))
  refine rn_goto (tgt := 2228) dL_law_1225 rfl ?_
  exact law_tail rfl rfl
set_option maxRecDepth 20000 in
theorem la_15_no00 (hl : l.stackTraces = false)  (z4 : xs 4 = 0) (z5 : xs 5 = 0) : ∃ h' : j_H, (h'.1.length ≤ 400 ∧ h'.2 ≤ 20000) ∧ Rn l D ad tc 6 xs mL_law 200 6000 1228 [(5, .int 0), (4, .ref 93), (3, .ref 92), (2, .ref 85), (1, .ref 1), (0, .ref 0)] [] (wd s0 (mdl (j_a0 D) 0 0 0 ++ [ol 0, od 0]), 6544) (some (.int 1)) h' := by
  refine ⟨(wd s0 (mdl (j_a0 D) 1 0 0 ++ [ol 0, od 0, j_x 1]), 6544 + 6), ⟨by simp [wd_len, mdl, lkT], Nat.le_of_ble_eq_true rfl⟩, ?_⟩
  refine rn_aload_n dL_law_1228 rfl ?_
  refine rn_aload_n dL_law_1229 rfl ?_
  refine rn_iload dL_law_1230 rfl ?_
  refine rn_iconst (v := 1) dL_law_1232 rfl ?_
  refine rn_iadd dL_law_1233 ?_
  refine rn_topi (y := 1) (by decide) ?_
  refine rn_sld dL_law_1234 (by unfold vp_in; decide) ?_
  refine rn_topi (y := xs 1) rfl ?_
  refine rn_aload_n dL_law_1235 rfl ?_
  refine rn_iload dL_law_1236 rfl ?_
  refine rn_iconst (v := 2) dL_law_1238 rfl ?_
  refine rn_iadd dL_law_1239 ?_
  refine rn_topi (y := 2) (by decide) ?_
  refine rn_sld dL_law_1240 (by unfold vp_in; decide) ?_
  refine rn_topi (y := xs 2) rfl ?_
  refine rn_aload_n dL_law_1241 rfl ?_
  refine rn_iload dL_law_1242 rfl ?_
  refine rn_iconst (v := 3) dL_law_1244 rfl ?_
  refine rn_iadd dL_law_1245 ?_
  refine rn_topi (y := 3) (by decide) ?_
  refine rn_sld dL_law_1246 (by unfold vp_in; decide) ?_
  refine rn_topi (y := xs 3) rfl ?_
  refine rn_aload_n dL_law_1247 rfl ?_
  refine rn_iload dL_law_1248 rfl ?_
  refine rn_iconst (v := 4) dL_law_1250 rfl ?_
  refine rn_iadd dL_law_1251 ?_
  refine rn_topi (y := 4) (by decide) ?_
  refine rn_sld dL_law_1252 (by unfold vp_in; decide) ?_
  refine rn_topi (y := xs 4) rfl ?_
  refine rn_if_eq (tgt := 1260) dL_law_1253 rfl (fun _ => ?_) (fun q => absurd z4 q)
  refine rn_iconst (v := 0) dL_law_1260 rfl ?_
  refine rn_aload_n dL_law_1261 rfl ?_
  refine rn_iload dL_law_1262 rfl ?_
  refine rn_iconst (v := 5) dL_law_1264 rfl ?_
  refine rn_iadd dL_law_1265 ?_
  refine rn_topi (y := 5) (by decide) ?_
  refine rn_sld dL_law_1266 (by unfold vp_in; decide) ?_
  refine rn_topi (y := xs 5) rfl ?_
  refine rn_if_eq (tgt := 1274) dL_law_1267 rfl (fun _ => ?_) (fun q => absurd z5 q)
  refine rn_iconst (v := 0) dL_law_1274 rfl ?_
  refine rn_aload dL_law_1275 rfl ?_
  refine rn_callSW dL_law_1277 csw_L_158 (w_arrival_x1 (x_arrival hl Fr_0) (by decide) (by decide)) rfl (by decide) (by decide) rfl (Nat.le_of_ble_eq_true rfl) ?_
  refine rn_h (h2 := (wd s0 (mdl (j_a0 D) 0 0 0 ++ [ol 0, od 0, j_x 1]), 6544 + 6)) rfl ?_
  refine rn_istore dL_law_1280 (by decide) rfl ?_
  refine rn_aload_n dL_law_1282 rfl ?_
  refine rn_aload_n dL_law_1283 rfl ?_
  refine rn_iload dL_law_1284 rfl ?_
  refine rn_iconst (v := 1) dL_law_1286 rfl ?_
  refine rn_iadd dL_law_1287 ?_
  refine rn_topi (y := 1) (by decide) ?_
  refine rn_sld dL_law_1288 (by unfold vp_in; decide) ?_
  refine rn_topi (y := xs 1) rfl ?_
  refine rn_aload_n dL_law_1289 rfl ?_
  refine rn_iload dL_law_1290 rfl ?_
  refine rn_iconst (v := 2) dL_law_1292 rfl ?_
  refine rn_iadd dL_law_1293 ?_
  refine rn_topi (y := 2) (by decide) ?_
  refine rn_sld dL_law_1294 (by unfold vp_in; decide) ?_
  refine rn_topi (y := xs 2) rfl ?_
  refine rn_aload_n dL_law_1295 rfl ?_
  refine rn_iload dL_law_1296 rfl ?_
  refine rn_iconst (v := 3) dL_law_1298 rfl ?_
  refine rn_iadd dL_law_1299 ?_
  refine rn_topi (y := 3) (by decide) ?_
  refine rn_sld dL_law_1300 (by unfold vp_in; decide) ?_
  refine rn_topi (y := xs 3) rfl ?_
  refine rn_aload_n dL_law_1301 rfl ?_
  refine rn_iload dL_law_1302 rfl ?_
  refine rn_iconst (v := 4) dL_law_1304 rfl ?_
  refine rn_iadd dL_law_1305 ?_
  refine rn_topi (y := 4) (by decide) ?_
  refine rn_sld dL_law_1306 (by unfold vp_in; decide) ?_
  refine rn_topi (y := xs 4) rfl ?_
  refine rn_if_eq (tgt := 1314) dL_law_1307 rfl (fun _ => ?_) (fun q => absurd z4 q)
  refine rn_iconst (v := 0) dL_law_1314 rfl ?_
  refine rn_aload_n dL_law_1315 rfl ?_
  refine rn_iload dL_law_1316 rfl ?_
  refine rn_iconst (v := 5) dL_law_1318 rfl ?_
  refine rn_iadd dL_law_1319 ?_
  refine rn_topi (y := 5) (by decide) ?_
  refine rn_sld dL_law_1320 (by unfold vp_in; decide) ?_
  refine rn_topi (y := xs 5) rfl ?_
  refine rn_if_eq (tgt := 1328) dL_law_1321 rfl (fun _ => ?_) (fun q => absurd z5 q)
  refine rn_iconst (v := 0) dL_law_1328 rfl ?_
  refine rn_callV dL_law_1329 cv_L_161 (c_X11_arrival (G := gW s0) (U := [ol 0, od 0, j_x 1]) (u := 3) gW_len rfl) rfl (wd_E (i := 0) rfl) rfl rfl (by decide) (by decide) rfl (Nat.le_of_ble_eq_true rfl) ?_
  refine rn_h (h2 := (wd s0 (mdl (j_a0 D) 1 0 0 ++ [ol 0, od 0, j_x 1]), 6544 + 6)) rfl ?_
  refine rn_dstore dL_law_1332 (by decide) rfl ?_
  refine rn_aload_n dL_law_1334 rfl ?_
  refine rn_callV dL_law_1335 cv_L_105 (c_X11_thrown (i := 84) (t := 1) (wd_E (i := 0) rfl)) rfl (wd_E (i := 0) rfl) rfl rfl (by decide) (by decide) rfl (Nat.le_of_ble_eq_true rfl) ?_
  refine rn_iload dL_law_1338 rfl ?_
  refine rn_icmp_eq (tgt := 1345) dL_law_1340 rfl (fun _ => ?_) (fun q => absurd (by decide) q)
  refine rn_iload dL_law_1345 rfl ?_
  refine rn_if_ne (tgt := 1382) dL_law_1347 rfl (fun _ => ?_) (fun q => absurd q (by decide))
  refine rn_goto (tgt := 2228) dL_law_1382 rfl ?_
  exact law_tail rfl rfl
set_option maxRecDepth 20000 in
theorem la_15_no01 (hl : l.stackTraces = false)  (z4 : xs 4 = 0) (z5 : ¬ xs 5 = 0) : ∃ h' : j_H, (h'.1.length ≤ 400 ∧ h'.2 ≤ 20000) ∧ Rn l D ad tc 6 xs mL_law 200 6000 1228 [(5, .int 0), (4, .ref 93), (3, .ref 92), (2, .ref 85), (1, .ref 1), (0, .ref 0)] [] (wd s0 (mdl (j_a0 D) 0 0 0 ++ [ol 0, od 0]), 6544) (some (.int 1)) h' := by
  refine ⟨(wd s0 (mdl (j_a0 D) 1 0 0 ++ [ol 0, od 0, j_x 1]), 6544 + 6), ⟨by simp [wd_len, mdl, lkT], Nat.le_of_ble_eq_true rfl⟩, ?_⟩
  refine rn_aload_n dL_law_1228 rfl ?_
  refine rn_aload_n dL_law_1229 rfl ?_
  refine rn_iload dL_law_1230 rfl ?_
  refine rn_iconst (v := 1) dL_law_1232 rfl ?_
  refine rn_iadd dL_law_1233 ?_
  refine rn_topi (y := 1) (by decide) ?_
  refine rn_sld dL_law_1234 (by unfold vp_in; decide) ?_
  refine rn_topi (y := xs 1) rfl ?_
  refine rn_aload_n dL_law_1235 rfl ?_
  refine rn_iload dL_law_1236 rfl ?_
  refine rn_iconst (v := 2) dL_law_1238 rfl ?_
  refine rn_iadd dL_law_1239 ?_
  refine rn_topi (y := 2) (by decide) ?_
  refine rn_sld dL_law_1240 (by unfold vp_in; decide) ?_
  refine rn_topi (y := xs 2) rfl ?_
  refine rn_aload_n dL_law_1241 rfl ?_
  refine rn_iload dL_law_1242 rfl ?_
  refine rn_iconst (v := 3) dL_law_1244 rfl ?_
  refine rn_iadd dL_law_1245 ?_
  refine rn_topi (y := 3) (by decide) ?_
  refine rn_sld dL_law_1246 (by unfold vp_in; decide) ?_
  refine rn_topi (y := xs 3) rfl ?_
  refine rn_aload_n dL_law_1247 rfl ?_
  refine rn_iload dL_law_1248 rfl ?_
  refine rn_iconst (v := 4) dL_law_1250 rfl ?_
  refine rn_iadd dL_law_1251 ?_
  refine rn_topi (y := 4) (by decide) ?_
  refine rn_sld dL_law_1252 (by unfold vp_in; decide) ?_
  refine rn_topi (y := xs 4) rfl ?_
  refine rn_if_eq (tgt := 1260) dL_law_1253 rfl (fun _ => ?_) (fun q => absurd z4 q)
  refine rn_iconst (v := 0) dL_law_1260 rfl ?_
  refine rn_aload_n dL_law_1261 rfl ?_
  refine rn_iload dL_law_1262 rfl ?_
  refine rn_iconst (v := 5) dL_law_1264 rfl ?_
  refine rn_iadd dL_law_1265 ?_
  refine rn_topi (y := 5) (by decide) ?_
  refine rn_sld dL_law_1266 (by unfold vp_in; decide) ?_
  refine rn_topi (y := xs 5) rfl ?_
  refine rn_if_eq (tgt := 1274) dL_law_1267 rfl (fun q => absurd q z5) (fun _ => ?_)
  refine rn_iconst (v := 1) dL_law_1270 rfl ?_
  refine rn_goto (tgt := 1275) dL_law_1271 rfl ?_
  refine rn_aload dL_law_1275 rfl ?_
  refine rn_callSW dL_law_1277 csw_L_158 (w_arrival_x1 (x_arrival hl Fr_0) (by decide) (by decide)) rfl (by decide) (by decide) rfl (Nat.le_of_ble_eq_true rfl) ?_
  refine rn_h (h2 := (wd s0 (mdl (j_a0 D) 0 0 0 ++ [ol 0, od 0, j_x 1]), 6544 + 6)) rfl ?_
  refine rn_istore dL_law_1280 (by decide) rfl ?_
  refine rn_aload_n dL_law_1282 rfl ?_
  refine rn_aload_n dL_law_1283 rfl ?_
  refine rn_iload dL_law_1284 rfl ?_
  refine rn_iconst (v := 1) dL_law_1286 rfl ?_
  refine rn_iadd dL_law_1287 ?_
  refine rn_topi (y := 1) (by decide) ?_
  refine rn_sld dL_law_1288 (by unfold vp_in; decide) ?_
  refine rn_topi (y := xs 1) rfl ?_
  refine rn_aload_n dL_law_1289 rfl ?_
  refine rn_iload dL_law_1290 rfl ?_
  refine rn_iconst (v := 2) dL_law_1292 rfl ?_
  refine rn_iadd dL_law_1293 ?_
  refine rn_topi (y := 2) (by decide) ?_
  refine rn_sld dL_law_1294 (by unfold vp_in; decide) ?_
  refine rn_topi (y := xs 2) rfl ?_
  refine rn_aload_n dL_law_1295 rfl ?_
  refine rn_iload dL_law_1296 rfl ?_
  refine rn_iconst (v := 3) dL_law_1298 rfl ?_
  refine rn_iadd dL_law_1299 ?_
  refine rn_topi (y := 3) (by decide) ?_
  refine rn_sld dL_law_1300 (by unfold vp_in; decide) ?_
  refine rn_topi (y := xs 3) rfl ?_
  refine rn_aload_n dL_law_1301 rfl ?_
  refine rn_iload dL_law_1302 rfl ?_
  refine rn_iconst (v := 4) dL_law_1304 rfl ?_
  refine rn_iadd dL_law_1305 ?_
  refine rn_topi (y := 4) (by decide) ?_
  refine rn_sld dL_law_1306 (by unfold vp_in; decide) ?_
  refine rn_topi (y := xs 4) rfl ?_
  refine rn_if_eq (tgt := 1314) dL_law_1307 rfl (fun _ => ?_) (fun q => absurd z4 q)
  refine rn_iconst (v := 0) dL_law_1314 rfl ?_
  refine rn_aload_n dL_law_1315 rfl ?_
  refine rn_iload dL_law_1316 rfl ?_
  refine rn_iconst (v := 5) dL_law_1318 rfl ?_
  refine rn_iadd dL_law_1319 ?_
  refine rn_topi (y := 5) (by decide) ?_
  refine rn_sld dL_law_1320 (by unfold vp_in; decide) ?_
  refine rn_topi (y := xs 5) rfl ?_
  refine rn_if_eq (tgt := 1328) dL_law_1321 rfl (fun q => absurd q z5) (fun _ => ?_)
  refine rn_iconst (v := 1) dL_law_1324 rfl ?_
  refine rn_goto (tgt := 1329) dL_law_1325 rfl ?_
  refine rn_callV dL_law_1329 cv_L_161 (c_X11_arrival (G := gW s0) (U := [ol 0, od 0, j_x 1]) (u := 3) gW_len rfl) rfl (wd_E (i := 0) rfl) rfl rfl (by decide) (by decide) rfl (Nat.le_of_ble_eq_true rfl) ?_
  refine rn_h (h2 := (wd s0 (mdl (j_a0 D) 1 0 0 ++ [ol 0, od 0, j_x 1]), 6544 + 6)) rfl ?_
  refine rn_dstore dL_law_1332 (by decide) rfl ?_
  refine rn_aload_n dL_law_1334 rfl ?_
  refine rn_callV dL_law_1335 cv_L_105 (c_X11_thrown (i := 84) (t := 1) (wd_E (i := 0) rfl)) rfl (wd_E (i := 0) rfl) rfl rfl (by decide) (by decide) rfl (Nat.le_of_ble_eq_true rfl) ?_
  refine rn_iload dL_law_1338 rfl ?_
  refine rn_icmp_eq (tgt := 1345) dL_law_1340 rfl (fun _ => ?_) (fun q => absurd (by decide) q)
  refine rn_iload dL_law_1345 rfl ?_
  refine rn_if_ne (tgt := 1382) dL_law_1347 rfl (fun _ => ?_) (fun q => absurd q (by decide))
  refine rn_goto (tgt := 2228) dL_law_1382 rfl ?_
  exact law_tail rfl rfl
set_option maxRecDepth 20000 in
theorem la_15_no10 (hl : l.stackTraces = false)  (z4 : ¬ xs 4 = 0) (z5 : xs 5 = 0) : ∃ h' : j_H, (h'.1.length ≤ 400 ∧ h'.2 ≤ 20000) ∧ Rn l D ad tc 6 xs mL_law 200 6000 1228 [(5, .int 0), (4, .ref 93), (3, .ref 92), (2, .ref 85), (1, .ref 1), (0, .ref 0)] [] (wd s0 (mdl (j_a0 D) 0 0 0 ++ [ol 0, od 0]), 6544) (some (.int 1)) h' := by
  refine ⟨(wd s0 (mdl (j_a0 D) 1 0 0 ++ [ol 0, od 0, j_x 1]), 6544 + 6), ⟨by simp [wd_len, mdl, lkT], Nat.le_of_ble_eq_true rfl⟩, ?_⟩
  refine rn_aload_n dL_law_1228 rfl ?_
  refine rn_aload_n dL_law_1229 rfl ?_
  refine rn_iload dL_law_1230 rfl ?_
  refine rn_iconst (v := 1) dL_law_1232 rfl ?_
  refine rn_iadd dL_law_1233 ?_
  refine rn_topi (y := 1) (by decide) ?_
  refine rn_sld dL_law_1234 (by unfold vp_in; decide) ?_
  refine rn_topi (y := xs 1) rfl ?_
  refine rn_aload_n dL_law_1235 rfl ?_
  refine rn_iload dL_law_1236 rfl ?_
  refine rn_iconst (v := 2) dL_law_1238 rfl ?_
  refine rn_iadd dL_law_1239 ?_
  refine rn_topi (y := 2) (by decide) ?_
  refine rn_sld dL_law_1240 (by unfold vp_in; decide) ?_
  refine rn_topi (y := xs 2) rfl ?_
  refine rn_aload_n dL_law_1241 rfl ?_
  refine rn_iload dL_law_1242 rfl ?_
  refine rn_iconst (v := 3) dL_law_1244 rfl ?_
  refine rn_iadd dL_law_1245 ?_
  refine rn_topi (y := 3) (by decide) ?_
  refine rn_sld dL_law_1246 (by unfold vp_in; decide) ?_
  refine rn_topi (y := xs 3) rfl ?_
  refine rn_aload_n dL_law_1247 rfl ?_
  refine rn_iload dL_law_1248 rfl ?_
  refine rn_iconst (v := 4) dL_law_1250 rfl ?_
  refine rn_iadd dL_law_1251 ?_
  refine rn_topi (y := 4) (by decide) ?_
  refine rn_sld dL_law_1252 (by unfold vp_in; decide) ?_
  refine rn_topi (y := xs 4) rfl ?_
  refine rn_if_eq (tgt := 1260) dL_law_1253 rfl (fun q => absurd q z4) (fun _ => ?_)
  refine rn_iconst (v := 1) dL_law_1256 rfl ?_
  refine rn_goto (tgt := 1261) dL_law_1257 rfl ?_
  refine rn_aload_n dL_law_1261 rfl ?_
  refine rn_iload dL_law_1262 rfl ?_
  refine rn_iconst (v := 5) dL_law_1264 rfl ?_
  refine rn_iadd dL_law_1265 ?_
  refine rn_topi (y := 5) (by decide) ?_
  refine rn_sld dL_law_1266 (by unfold vp_in; decide) ?_
  refine rn_topi (y := xs 5) rfl ?_
  refine rn_if_eq (tgt := 1274) dL_law_1267 rfl (fun _ => ?_) (fun q => absurd z5 q)
  refine rn_iconst (v := 0) dL_law_1274 rfl ?_
  refine rn_aload dL_law_1275 rfl ?_
  refine rn_callSW dL_law_1277 csw_L_158 (w_arrival_x1 (x_arrival hl Fr_0) (by decide) (by decide)) rfl (by decide) (by decide) rfl (Nat.le_of_ble_eq_true rfl) ?_
  refine rn_h (h2 := (wd s0 (mdl (j_a0 D) 0 0 0 ++ [ol 0, od 0, j_x 1]), 6544 + 6)) rfl ?_
  refine rn_istore dL_law_1280 (by decide) rfl ?_
  refine rn_aload_n dL_law_1282 rfl ?_
  refine rn_aload_n dL_law_1283 rfl ?_
  refine rn_iload dL_law_1284 rfl ?_
  refine rn_iconst (v := 1) dL_law_1286 rfl ?_
  refine rn_iadd dL_law_1287 ?_
  refine rn_topi (y := 1) (by decide) ?_
  refine rn_sld dL_law_1288 (by unfold vp_in; decide) ?_
  refine rn_topi (y := xs 1) rfl ?_
  refine rn_aload_n dL_law_1289 rfl ?_
  refine rn_iload dL_law_1290 rfl ?_
  refine rn_iconst (v := 2) dL_law_1292 rfl ?_
  refine rn_iadd dL_law_1293 ?_
  refine rn_topi (y := 2) (by decide) ?_
  refine rn_sld dL_law_1294 (by unfold vp_in; decide) ?_
  refine rn_topi (y := xs 2) rfl ?_
  refine rn_aload_n dL_law_1295 rfl ?_
  refine rn_iload dL_law_1296 rfl ?_
  refine rn_iconst (v := 3) dL_law_1298 rfl ?_
  refine rn_iadd dL_law_1299 ?_
  refine rn_topi (y := 3) (by decide) ?_
  refine rn_sld dL_law_1300 (by unfold vp_in; decide) ?_
  refine rn_topi (y := xs 3) rfl ?_
  refine rn_aload_n dL_law_1301 rfl ?_
  refine rn_iload dL_law_1302 rfl ?_
  refine rn_iconst (v := 4) dL_law_1304 rfl ?_
  refine rn_iadd dL_law_1305 ?_
  refine rn_topi (y := 4) (by decide) ?_
  refine rn_sld dL_law_1306 (by unfold vp_in; decide) ?_
  refine rn_topi (y := xs 4) rfl ?_
  refine rn_if_eq (tgt := 1314) dL_law_1307 rfl (fun q => absurd q z4) (fun _ => ?_)
  refine rn_iconst (v := 1) dL_law_1310 rfl ?_
  refine rn_goto (tgt := 1315) dL_law_1311 rfl ?_
  refine rn_aload_n dL_law_1315 rfl ?_
  refine rn_iload dL_law_1316 rfl ?_
  refine rn_iconst (v := 5) dL_law_1318 rfl ?_
  refine rn_iadd dL_law_1319 ?_
  refine rn_topi (y := 5) (by decide) ?_
  refine rn_sld dL_law_1320 (by unfold vp_in; decide) ?_
  refine rn_topi (y := xs 5) rfl ?_
  refine rn_if_eq (tgt := 1328) dL_law_1321 rfl (fun _ => ?_) (fun q => absurd z5 q)
  refine rn_iconst (v := 0) dL_law_1328 rfl ?_
  refine rn_callV dL_law_1329 cv_L_161 (c_X11_arrival (G := gW s0) (U := [ol 0, od 0, j_x 1]) (u := 3) gW_len rfl) rfl (wd_E (i := 0) rfl) rfl rfl (by decide) (by decide) rfl (Nat.le_of_ble_eq_true rfl) ?_
  refine rn_h (h2 := (wd s0 (mdl (j_a0 D) 1 0 0 ++ [ol 0, od 0, j_x 1]), 6544 + 6)) rfl ?_
  refine rn_dstore dL_law_1332 (by decide) rfl ?_
  refine rn_aload_n dL_law_1334 rfl ?_
  refine rn_callV dL_law_1335 cv_L_105 (c_X11_thrown (i := 84) (t := 1) (wd_E (i := 0) rfl)) rfl (wd_E (i := 0) rfl) rfl rfl (by decide) (by decide) rfl (Nat.le_of_ble_eq_true rfl) ?_
  refine rn_iload dL_law_1338 rfl ?_
  refine rn_icmp_eq (tgt := 1345) dL_law_1340 rfl (fun _ => ?_) (fun q => absurd (by decide) q)
  refine rn_iload dL_law_1345 rfl ?_
  refine rn_if_ne (tgt := 1382) dL_law_1347 rfl (fun _ => ?_) (fun q => absurd q (by decide))
  refine rn_goto (tgt := 2228) dL_law_1382 rfl ?_
  exact law_tail rfl rfl
set_option maxRecDepth 20000 in
theorem la_15_no11 (hl : l.stackTraces = false)  (z4 : ¬ xs 4 = 0) (z5 : ¬ xs 5 = 0) : ∃ h' : j_H, (h'.1.length ≤ 400 ∧ h'.2 ≤ 20000) ∧ Rn l D ad tc 6 xs mL_law 200 6000 1228 [(5, .int 0), (4, .ref 93), (3, .ref 92), (2, .ref 85), (1, .ref 1), (0, .ref 0)] [] (wd s0 (mdl (j_a0 D) 0 0 0 ++ [ol 0, od 0]), 6544) (some (.int 1)) h' := by
  refine ⟨(wd s0 (mdl (j_a0 D) 1 0 0 ++ [ol 0, od 0, j_x 1]), 6544 + 6), ⟨by simp [wd_len, mdl, lkT], Nat.le_of_ble_eq_true rfl⟩, ?_⟩
  refine rn_aload_n dL_law_1228 rfl ?_
  refine rn_aload_n dL_law_1229 rfl ?_
  refine rn_iload dL_law_1230 rfl ?_
  refine rn_iconst (v := 1) dL_law_1232 rfl ?_
  refine rn_iadd dL_law_1233 ?_
  refine rn_topi (y := 1) (by decide) ?_
  refine rn_sld dL_law_1234 (by unfold vp_in; decide) ?_
  refine rn_topi (y := xs 1) rfl ?_
  refine rn_aload_n dL_law_1235 rfl ?_
  refine rn_iload dL_law_1236 rfl ?_
  refine rn_iconst (v := 2) dL_law_1238 rfl ?_
  refine rn_iadd dL_law_1239 ?_
  refine rn_topi (y := 2) (by decide) ?_
  refine rn_sld dL_law_1240 (by unfold vp_in; decide) ?_
  refine rn_topi (y := xs 2) rfl ?_
  refine rn_aload_n dL_law_1241 rfl ?_
  refine rn_iload dL_law_1242 rfl ?_
  refine rn_iconst (v := 3) dL_law_1244 rfl ?_
  refine rn_iadd dL_law_1245 ?_
  refine rn_topi (y := 3) (by decide) ?_
  refine rn_sld dL_law_1246 (by unfold vp_in; decide) ?_
  refine rn_topi (y := xs 3) rfl ?_
  refine rn_aload_n dL_law_1247 rfl ?_
  refine rn_iload dL_law_1248 rfl ?_
  refine rn_iconst (v := 4) dL_law_1250 rfl ?_
  refine rn_iadd dL_law_1251 ?_
  refine rn_topi (y := 4) (by decide) ?_
  refine rn_sld dL_law_1252 (by unfold vp_in; decide) ?_
  refine rn_topi (y := xs 4) rfl ?_
  refine rn_if_eq (tgt := 1260) dL_law_1253 rfl (fun q => absurd q z4) (fun _ => ?_)
  refine rn_iconst (v := 1) dL_law_1256 rfl ?_
  refine rn_goto (tgt := 1261) dL_law_1257 rfl ?_
  refine rn_aload_n dL_law_1261 rfl ?_
  refine rn_iload dL_law_1262 rfl ?_
  refine rn_iconst (v := 5) dL_law_1264 rfl ?_
  refine rn_iadd dL_law_1265 ?_
  refine rn_topi (y := 5) (by decide) ?_
  refine rn_sld dL_law_1266 (by unfold vp_in; decide) ?_
  refine rn_topi (y := xs 5) rfl ?_
  refine rn_if_eq (tgt := 1274) dL_law_1267 rfl (fun q => absurd q z5) (fun _ => ?_)
  refine rn_iconst (v := 1) dL_law_1270 rfl ?_
  refine rn_goto (tgt := 1275) dL_law_1271 rfl ?_
  refine rn_aload dL_law_1275 rfl ?_
  refine rn_callSW dL_law_1277 csw_L_158 (w_arrival_x1 (x_arrival hl Fr_0) (by decide) (by decide)) rfl (by decide) (by decide) rfl (Nat.le_of_ble_eq_true rfl) ?_
  refine rn_h (h2 := (wd s0 (mdl (j_a0 D) 0 0 0 ++ [ol 0, od 0, j_x 1]), 6544 + 6)) rfl ?_
  refine rn_istore dL_law_1280 (by decide) rfl ?_
  refine rn_aload_n dL_law_1282 rfl ?_
  refine rn_aload_n dL_law_1283 rfl ?_
  refine rn_iload dL_law_1284 rfl ?_
  refine rn_iconst (v := 1) dL_law_1286 rfl ?_
  refine rn_iadd dL_law_1287 ?_
  refine rn_topi (y := 1) (by decide) ?_
  refine rn_sld dL_law_1288 (by unfold vp_in; decide) ?_
  refine rn_topi (y := xs 1) rfl ?_
  refine rn_aload_n dL_law_1289 rfl ?_
  refine rn_iload dL_law_1290 rfl ?_
  refine rn_iconst (v := 2) dL_law_1292 rfl ?_
  refine rn_iadd dL_law_1293 ?_
  refine rn_topi (y := 2) (by decide) ?_
  refine rn_sld dL_law_1294 (by unfold vp_in; decide) ?_
  refine rn_topi (y := xs 2) rfl ?_
  refine rn_aload_n dL_law_1295 rfl ?_
  refine rn_iload dL_law_1296 rfl ?_
  refine rn_iconst (v := 3) dL_law_1298 rfl ?_
  refine rn_iadd dL_law_1299 ?_
  refine rn_topi (y := 3) (by decide) ?_
  refine rn_sld dL_law_1300 (by unfold vp_in; decide) ?_
  refine rn_topi (y := xs 3) rfl ?_
  refine rn_aload_n dL_law_1301 rfl ?_
  refine rn_iload dL_law_1302 rfl ?_
  refine rn_iconst (v := 4) dL_law_1304 rfl ?_
  refine rn_iadd dL_law_1305 ?_
  refine rn_topi (y := 4) (by decide) ?_
  refine rn_sld dL_law_1306 (by unfold vp_in; decide) ?_
  refine rn_topi (y := xs 4) rfl ?_
  refine rn_if_eq (tgt := 1314) dL_law_1307 rfl (fun q => absurd q z4) (fun _ => ?_)
  refine rn_iconst (v := 1) dL_law_1310 rfl ?_
  refine rn_goto (tgt := 1315) dL_law_1311 rfl ?_
  refine rn_aload_n dL_law_1315 rfl ?_
  refine rn_iload dL_law_1316 rfl ?_
  refine rn_iconst (v := 5) dL_law_1318 rfl ?_
  refine rn_iadd dL_law_1319 ?_
  refine rn_topi (y := 5) (by decide) ?_
  refine rn_sld dL_law_1320 (by unfold vp_in; decide) ?_
  refine rn_topi (y := xs 5) rfl ?_
  refine rn_if_eq (tgt := 1328) dL_law_1321 rfl (fun q => absurd q z5) (fun _ => ?_)
  refine rn_iconst (v := 1) dL_law_1324 rfl ?_
  refine rn_goto (tgt := 1329) dL_law_1325 rfl ?_
  refine rn_callV dL_law_1329 cv_L_161 (c_X11_arrival (G := gW s0) (U := [ol 0, od 0, j_x 1]) (u := 3) gW_len rfl) rfl (wd_E (i := 0) rfl) rfl rfl (by decide) (by decide) rfl (Nat.le_of_ble_eq_true rfl) ?_
  refine rn_h (h2 := (wd s0 (mdl (j_a0 D) 1 0 0 ++ [ol 0, od 0, j_x 1]), 6544 + 6)) rfl ?_
  refine rn_dstore dL_law_1332 (by decide) rfl ?_
  refine rn_aload_n dL_law_1334 rfl ?_
  refine rn_callV dL_law_1335 cv_L_105 (c_X11_thrown (i := 84) (t := 1) (wd_E (i := 0) rfl)) rfl (wd_E (i := 0) rfl) rfl rfl (by decide) (by decide) rfl (Nat.le_of_ble_eq_true rfl) ?_
  refine rn_iload dL_law_1338 rfl ?_
  refine rn_icmp_eq (tgt := 1345) dL_law_1340 rfl (fun _ => ?_) (fun q => absurd (by decide) q)
  refine rn_iload dL_law_1345 rfl ?_
  refine rn_if_ne (tgt := 1382) dL_law_1347 rfl (fun _ => ?_) (fun q => absurd q (by decide))
  refine rn_goto (tgt := 2228) dL_law_1382 rfl ?_
  exact law_tail rfl rfl
set_option maxRecDepth 20000 in
theorem la_16_no (hl : l.stackTraces = false)  : ∃ h' : j_H, (h'.1.length ≤ 400 ∧ h'.2 ≤ 20000) ∧ Rn l D ad tc 6 xs mL_law 200 6000 1385 [(5, .int 0), (4, .ref 93), (3, .ref 92), (2, .ref 85), (1, .ref 1), (0, .ref 0)] [] (wd s0 (mdl (j_a0 D) 0 0 0 ++ [ol 0, od 0]), 6544) (some (.int 1)) h' := by
  refine ⟨(wd s0 (mdl (j_a0 D) 1 0 0 ++ [ol 0, od 0, j_x 1]), 6544 + 6), ⟨by simp [wd_len, mdl, lkT], Nat.le_of_ble_eq_true rfl⟩, ?_⟩
  refine rn_aload_n dL_law_1385 rfl ?_
  refine rn_aload_n dL_law_1386 rfl ?_
  refine rn_iload dL_law_1387 rfl ?_
  refine rn_iconst (v := 1) dL_law_1389 rfl ?_
  refine rn_iadd dL_law_1390 ?_
  refine rn_topi (y := 1) (by decide) ?_
  refine rn_sld dL_law_1391 (by unfold vp_in; decide) ?_
  refine rn_topi (y := xs 1) rfl ?_
  refine rn_aload_n dL_law_1392 rfl ?_
  refine rn_iload dL_law_1393 rfl ?_
  refine rn_iconst (v := 2) dL_law_1395 rfl ?_
  refine rn_iadd dL_law_1396 ?_
  refine rn_topi (y := 2) (by decide) ?_
  refine rn_sld dL_law_1397 (by unfold vp_in; decide) ?_
  refine rn_topi (y := xs 2) rfl ?_
  refine rn_aload_n dL_law_1398 rfl ?_
  refine rn_callSW dL_law_1399 csw_L_162 (w_winner_x1 (x_winner hl Fr_0) (by decide) (by decide)) rfl (by decide) (by decide) rfl (Nat.le_of_ble_eq_true rfl) ?_
  refine rn_h (h2 := (wd s0 (mdl (j_a0 D) 0 0 0 ++ [ol 0, od 0, j_x 1]), 6544 + 6)) rfl ?_
  refine rn_istore dL_law_1402 (by decide) rfl ?_
  refine rn_aload_n dL_law_1404 rfl ?_
  refine rn_aload_n dL_law_1405 rfl ?_
  refine rn_iload dL_law_1406 rfl ?_
  refine rn_iconst (v := 1) dL_law_1408 rfl ?_
  refine rn_iadd dL_law_1409 ?_
  refine rn_topi (y := 1) (by decide) ?_
  refine rn_sld dL_law_1410 (by unfold vp_in; decide) ?_
  refine rn_topi (y := xs 1) rfl ?_
  refine rn_aload_n dL_law_1411 rfl ?_
  refine rn_iload dL_law_1412 rfl ?_
  refine rn_iconst (v := 2) dL_law_1414 rfl ?_
  refine rn_iadd dL_law_1415 ?_
  refine rn_topi (y := 2) (by decide) ?_
  refine rn_sld dL_law_1416 (by unfold vp_in; decide) ?_
  refine rn_topi (y := xs 2) rfl ?_
  refine rn_callV dL_law_1417 cv_L_164 (c_X11_winner (G := gW s0) (U := [ol 0, od 0, j_x 1]) (u := 3) gW_len rfl) rfl (wd_E (i := 0) rfl) rfl rfl (by decide) (by decide) rfl (Nat.le_of_ble_eq_true rfl) ?_
  refine rn_h (h2 := (wd s0 (mdl (j_a0 D) 1 0 0 ++ [ol 0, od 0, j_x 1]), 6544 + 6)) rfl ?_
  refine rn_istore dL_law_1420 (by decide) rfl ?_
  refine rn_aload_n dL_law_1422 rfl ?_
  refine rn_callV dL_law_1423 cv_L_105 (c_X11_thrown (i := 84) (t := 1) (wd_E (i := 0) rfl)) rfl (wd_E (i := 0) rfl) rfl rfl (by decide) (by decide) rfl (Nat.le_of_ble_eq_true rfl) ?_
  refine rn_iload dL_law_1426 rfl ?_
  refine rn_icmp_eq (tgt := 1433) dL_law_1428 rfl (fun _ => ?_) (fun q => absurd (by decide) q)
  refine rn_iload dL_law_1433 rfl ?_
  refine rn_if_ne (tgt := 1450) dL_law_1435 rfl (fun _ => ?_) (fun q => absurd q (by decide))
  refine rn_goto (tgt := 2228) dL_law_1450 rfl ?_
  exact law_tail rfl rfl
end LC
