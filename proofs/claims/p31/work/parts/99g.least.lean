/-! the law's least, and its loop over the corners -/
def dlf (a b : Int) : Nat → UInt64 := fun j => if j = 0 then dv a else if j = 1 then dv b else 0
def dl (a b : Int) : j_C := .inl (1, 2, .inr (.inr (.inr (.inl (dlf a b)))))
theorem dlf_0 {a b x : Int} : vf_upd (dlf a b) 0 (dv x) = dlf x b := by
  funext j
  unfold vf_upd dlf
  by_cases h : j = 0
  · rw [if_pos h, if_pos h]
  · rw [if_neg h, if_neg h, if_neg h]
theorem dlf_1 {a b x : Int} : vf_upd (dlf a b) 1 (dv x) = dlf a x := by
  funext j
  unfold vf_upd dlf
  by_cases h : j = 1
  · subst h
    rfl
  · rw [if_neg h, if_neg h, if_neg h]
section LG
variable {l : Launch} {D : va_G} {ad : Nat → Nat} {tc : Nat → ClassId} {L : Nat} {xs : Nat → Int32} {M : j_M} {d lo pc : Nat} {lv : j_L} {st : List Value} {h' : j_H} {r : Option Value} {S : jS} {E : List j_C} {sl a : Nat} {z0 z1 x : Int}

theorem rnZ_ald0 (ha : E.length + 85 = a) (hd : decode M.2.1 pc = .ok (.daload, 1)) (kk : Rn l D ad tc L xs M d lo (pc + 1) lv (.double (dv z0) :: st) (wd S (E ++ [dl z0 z1]), sl) r h') : Rn l D ad tc L xs M d lo pc lv (.int (nI 0) :: .ref a :: st) (wd S (E ++ [dl z0 z1]), sl) r h' := by
  subst ha
  refine rn_daload (h := (wd S (E ++ [dl z0 z1]), sl)) (a := E.length + 84) (n := 2) (f := dlf z0 z1) hd (wd_at2 la_at) rfl (vp_in_nI (by decide) (by decide)) ?_
  rw [nI_clamp (by decide)]
  exact kk
theorem rnZ_ast0 (ha : E.length + 85 = a) (hd : decode M.2.1 pc = .ok (.dastore, 1)) (kk : Rn l D ad tc L xs M d lo (pc + 1) lv st (wd S (E ++ [dl x z1]), sl) r h') : Rn l D ad tc L xs M d lo pc lv (.double (dv x) :: .int (nI 0) :: .ref a :: st) (wd S (E ++ [dl z0 z1]), sl) r h' := by
  subst ha
  refine rn_dastore (h := (wd S (E ++ [dl z0 z1]), sl)) (a := E.length + 84) (n := 2) (f := dlf z0 z1) hd (wd_at2 la_at) rfl (vp_in_nI (by decide) (by decide)) ?_
  rw [nI_clamp (by decide), dlf_0]
  show Rn l D ad tc L xs M d lo (pc + 1) lv st ((wd S (E ++ [dl z0 z1])).set (E.length + 84) (dl x z1), sl) r h'
  rw [wd_set2, la_set]
  exact kk
theorem rnZ_ald1 (ha : E.length + 85 = a) (hd : decode M.2.1 pc = .ok (.daload, 1)) (kk : Rn l D ad tc L xs M d lo (pc + 1) lv (.double (dv z1) :: st) (wd S (E ++ [dl z0 z1]), sl) r h') : Rn l D ad tc L xs M d lo pc lv (.int (nI 1) :: .ref a :: st) (wd S (E ++ [dl z0 z1]), sl) r h' := by
  subst ha
  refine rn_daload (h := (wd S (E ++ [dl z0 z1]), sl)) (a := E.length + 84) (n := 2) (f := dlf z0 z1) hd (wd_at2 la_at) rfl (vp_in_nI (by decide) (by decide)) ?_
  rw [nI_clamp (by decide)]
  exact kk
theorem rnZ_ast1 (ha : E.length + 85 = a) (hd : decode M.2.1 pc = .ok (.dastore, 1)) (kk : Rn l D ad tc L xs M d lo (pc + 1) lv st (wd S (E ++ [dl z0 x]), sl) r h') : Rn l D ad tc L xs M d lo pc lv (.double (dv x) :: .int (nI 1) :: .ref a :: st) (wd S (E ++ [dl z0 z1]), sl) r h' := by
  subst ha
  refine rn_dastore (h := (wd S (E ++ [dl z0 z1]), sl)) (a := E.length + 84) (n := 2) (f := dlf z0 z1) hd (wd_at2 la_at) rfl (vp_in_nI (by decide) (by decide)) ?_
  rw [nI_clamp (by decide), dlf_1]
  show Rn l D ad tc L xs M d lo (pc + 1) lv st ((wd S (E ++ [dl z0 z1])).set (E.length + 84) (dl z0 x), sl) r h'
  rw [wd_set2, la_set]
  exact kk
end LG
section LH
variable {l : Launch} {D : va_G} {ad : Nat → Nat} {tc : Nat → ClassId} {L : Nat} {xs : Nat → Int32} {S : jS} {E : List j_C} {sl : Nat} {sm : Int64} {Q : QC} {i c : Nat} {ck : Int32} {z0 z1 : Int}
set_option maxRecDepth 20000 in
theorem lp_late (hE : E.length = 23) (h : Inq Q S) (hi : i < Q.n) (hc : c < Q.nc) (he : enB Q.X i = true) (hz0 : -20000000 ≤ z0 ∧ z0 ≤ 409595904) (hz1 : -20000000 ≤ z1 ∧ z1 ≤ 409595904) : ∃ S2, Inq Q S2 ∧ ∀ (r : Option Value) (h' : j_H), Rn l D ad tc L xs mL_law 12 400 248 [(9, .int (nI c)), (8, .int (bI (enB Q.X i))), (6, .int ck), (7, .int (nI i)), (5, .ref 108), (3, .long sm), (2, .ref 85), (1, .ref 1), (0, .ref 0)] [] (wd S2 (E ++ [dl (min z0 ((Q.T (jOf c true)).2.2.1 i)) (min z1 ((Q.T (jOf c false)).2.2.1 i))]), sl) r h' → Rn l D ad tc L xs mL_law 12 400 200 [(10, .int (nI 0)), (9, .int (nI c)), (8, .int (bI (enB Q.X i))), (6, .int ck), (7, .int (nI i)), (5, .ref 108), (3, .long sm), (2, .ref 85), (1, .ref 1), (0, .ref 0)] [] (wd S (E ++ [dl z0 z1]), sl) r h' := by
  have hn := h.1.1.1.2
  have hc3 : c < 3 := by have := h.1.1.2.2.1.2.2; omega
  have t0 := Q_ls (e := i) (b := true) h hc3
  have t1 := Q_ls (e := i) (b := false) h hc3
  have d0 : dB z0 := dB_of (by omega) (by omega)
  have d1 : dB z1 := dB_of (by omega) (by omega)
  have e0 : dB ((Q.T (jOf c true)).2.2.1 i) := dB_of (by omega) (by omega)
  have e1 : dB ((Q.T (jOf c false)).2.2.1 i) := dB_of (by omega) (by omega)
  obtain ⟨S1, h1, k0⟩ := q_leftAt (l := l) (D := D) (ad := ad) (tc := tc) (L := L) (xs := xs) (E := E ++ [dl z0 z1]) (sl := sl) (e := i) (c := c) (b := true) h hi he hc
  obtain ⟨S2, h2, k1⟩ := q_leftAt (l := l) (D := D) (ad := ad) (tc := tc) (L := L) (xs := xs) (E := E ++ [dl (min z0 ((Q.T (jOf c true)).2.2.1 i)) z1]) (sl := sl) (e := i) (c := c) (b := false) h1 hi he hc
  refine ⟨S2, h2, fun r h' z => ?_⟩
  have B2 : Rn l D ad tc L xs mL_law 12 400 200 [(10, .int (nI 2)), (9, .int (nI c)), (8, .int (bI (enB Q.X i))), (6, .int ck), (7, .int (nI i)), (5, .ref 108), (3, .long sm), (2, .ref 85), (1, .ref 1), (0, .ref 0)] [] (wd S2 (E ++ [dl (min z0 ((Q.T (jOf c true)).2.2.1 i)) (min z1 ((Q.T (jOf c false)).2.2.1 i))]), sl) r h' := by
    refine rn_iload dL_law_200 rfl ?_
    refine rn_iconst (v := 2) dL_law_202 rfl ?_
    refine rn_icmp_ge (tgt := 248) dL_law_203 rfl (fun _ => ?_) (fun q1 => absurd (by decide) q1)
    exact rn_subg rfl z
  have B1 : Rn l D ad tc L xs mL_law 12 400 200 [(10, .int (nI 1)), (9, .int (nI c)), (8, .int (bI (enB Q.X i))), (6, .int ck), (7, .int (nI i)), (5, .ref 108), (3, .long sm), (2, .ref 85), (1, .ref 1), (0, .ref 0)] [] (wd S1 (E ++ [dl (min z0 ((Q.T (jOf c true)).2.2.1 i)) z1]), sl) r h' := by
    refine rn_iload dL_law_200 rfl ?_
    refine rn_iconst (v := 2) dL_law_202 rfl ?_
    refine rn_icmp_ge (tgt := 248) dL_law_203 rfl (fun q1 => absurd q1 (by decide)) (fun _ => ?_)
    refine rn_iload dL_law_206 rfl ?_
    refine rn_topi (y := 1) (by rw [he]; rfl) ?_
    refine rn_if_eq (tgt := 248) dL_law_208 rfl (fun q2 => absurd q2 (by decide)) (fun _ => ?_)
    refine rn_aload dL_law_211 rfl ?_
    refine rn_iload dL_law_213 rfl ?_
    refine rn_aload dL_law_215 rfl ?_
    refine rn_iload dL_law_217 rfl ?_
    refine rnZ_ald1 (by rw [hE]) dL_law_219 ?_
    refine rn_aload_n dL_law_220 rfl ?_
    refine rn_iload dL_law_221 rfl ?_
    refine rn_iload dL_law_223 rfl ?_
    refine rn_iload dL_law_225 rfl ?_
    refine rn_if_ne (tgt := 234) dL_law_227 rfl (fun _ => ?_) (fun q3 => absurd q3 (by decide))
    refine rn_iconst (v := 0) dL_law_234 rfl ?_
    refine rn_topi (y := bI false) rfl ?_
    refine rn_callV dL_law_235 cv_L_81 k1 rfl h_SH rfl rfl (by decide) (by decide) rfl (Nat.le_of_ble_eq_true rfl) ?_
    refine rn_min dL_law_238 cs_L_85 d1 e1 (by decide) (by decide) (Nat.le_of_ble_eq_true rfl) ?_
    refine rnZ_ast1 (by rw [hE]) dL_law_241 ?_
    refine rn_iinc dL_law_242 rfl (nI_1 _) (by decide) rfl ?_
    refine rn_goto (tgt := 200) dL_law_245 rfl ?_
    exact rn_subg rfl B2
  refine rn_iload dL_law_200 rfl ?_
  refine rn_iconst (v := 2) dL_law_202 rfl ?_
  refine rn_icmp_ge (tgt := 248) dL_law_203 rfl (fun q1 => absurd q1 (by decide)) (fun _ => ?_)
  refine rn_iload dL_law_206 rfl ?_
  refine rn_topi (y := 1) (by rw [he]; rfl) ?_
  refine rn_if_eq (tgt := 248) dL_law_208 rfl (fun q2 => absurd q2 (by decide)) (fun _ => ?_)
  refine rn_aload dL_law_211 rfl ?_
  refine rn_iload dL_law_213 rfl ?_
  refine rn_aload dL_law_215 rfl ?_
  refine rn_iload dL_law_217 rfl ?_
  refine rnZ_ald0 (by rw [hE]) dL_law_219 ?_
  refine rn_aload_n dL_law_220 rfl ?_
  refine rn_iload dL_law_221 rfl ?_
  refine rn_iload dL_law_223 rfl ?_
  refine rn_iload dL_law_225 rfl ?_
  refine rn_if_ne (tgt := 234) dL_law_227 rfl (fun q3 => absurd q3 (by decide)) (fun _ => ?_)
  refine rn_iconst (v := 1) dL_law_230 rfl ?_
  refine rn_goto (tgt := 235) dL_law_231 rfl ?_
  refine rn_topi (y := bI true) rfl ?_
  refine rn_callV dL_law_235 cv_L_81 k0 rfl h_SH rfl rfl (by decide) (by decide) rfl (Nat.le_of_ble_eq_true rfl) ?_
  refine rn_min dL_law_238 cs_L_85 d0 e0 (by decide) (by decide) (Nat.le_of_ble_eq_true rfl) ?_
  refine rnZ_ast0 (by rw [hE]) dL_law_241 ?_
  refine rn_iinc dL_law_242 rfl (nI_1 _) (by decide) rfl ?_
  refine rn_goto (tgt := 200) dL_law_245 rfl ?_
  exact rn_subg rfl B1
theorem lp_lateN (he : enB Q.X i = false) (r : Option Value) (h' : j_H) (z : Rn l D ad tc L xs mL_law 12 400 248 [(9, .int (nI c)), (8, .int (bI (enB Q.X i))), (6, .int ck), (7, .int (nI i)), (5, .ref 108), (3, .long sm), (2, .ref 85), (1, .ref 1), (0, .ref 0)] [] (wd S (E), sl) r h') : Rn l D ad tc L xs mL_law 12 400 200 [(10, .int (nI 0)), (9, .int (nI c)), (8, .int (bI (enB Q.X i))), (6, .int ck), (7, .int (nI i)), (5, .ref 108), (3, .long sm), (2, .ref 85), (1, .ref 1), (0, .ref 0)] [] (wd S (E), sl) r h' := by
  refine rn_iload dL_law_200 rfl ?_
  refine rn_iconst (v := 2) dL_law_202 rfl ?_
  refine rn_icmp_ge (tgt := 248) dL_law_203 rfl (fun q1 => absurd q1 (by decide)) (fun _ => ?_)
  refine rn_iload dL_law_206 rfl ?_
  refine rn_topi (y := 0) (by rw [he]; rfl) ?_
  refine rn_if_eq (tgt := 248) dL_law_208 rfl (fun _ => ?_) (fun q2 => absurd (by decide) q2)
  exact rn_subg rfl z
end LH
