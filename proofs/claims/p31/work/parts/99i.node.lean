/-! the law's loops over corners and nodes -/
section LN
variable {l : Launch} {D : va_G} {ad : Nat → Nat} {tc : Nat → ClassId} {L : Nat} {xs : Nat → Int32} {S : jS} {E : List j_C} {sl : Nat} {sm : Int64} {Q : QC} {i c : Nat} {ck : Int32}
set_option maxRecDepth 20000 in
theorem lp_137 (h11 : Q.n = 11) (h2 : Q.nc = 2) (h3 : Q.nk = 3) (hE : E.length = 23) (hR : RWs Q.X E 11) (hi : i < Q.n) (hc : c < Q.nc) (h : Inq Q S) : ∃ S2, Inq Q S2 ∧ ∀ (r : Option Value) (h' : j_H), Rn l D ad tc L xs mL_law 12 400 197 [(9, .int (nI c)), (8, .int (bI (enB Q.X i))), (6, .int ck), (7, .int (nI i)), (5, .ref 108), (3, .long sm), (2, .ref 85), (1, .ref 1), (0, .ref 0)] [] (wd S2 (E ++ [dl (lsX Q true i c) (lsX Q false i c)]), sl) r h' → Rn l D ad tc L xs mL_law 12 400 137 [(9, .int (nI c)), (8, .int (bI (enB Q.X i))), (6, .int ck), (7, .int (nI i)), (5, .ref 108), (3, .long sm), (2, .ref 85), (1, .ref 1), (0, .ref 0)] [] (wd S (E ++ [dl (lsX Q true i c) (lsX Q false i c)]), sl) r h' := by
  have hc3 : c < 3 := by omega
  obtain ⟨f, e1, e2a, e3⟩ := hR.2 i (by omega)
  have e1a : (E ++ [dl (lsX Q true i c) (lsX Q false i c)])[2 * i + 2]? = some (rwC f) := by
    rw [List.getElem?_append_left (by omega)]
    exact e1
  by_cases h7 : kd Q.X i = 7
  · have e3a := e3 h7
    obtain ⟨S1, h1, k1⟩ := q_borrow (l := l) (D := D) (ad := ad) (tc := tc) (L := L) (xs := xs) (sl := sl) (E := E ++ [dl (lsX Q true i c) (lsX Q false i c)]) (i := i) (c := c) h hi hc h7
    obtain ⟨S2, h2', k2⟩ := q_borrow (l := l) (D := D) (ad := ad) (tc := tc) (L := L) (xs := xs) (sl := sl) (E := E ++ [dl (lsX Q true i c) (lsX Q false i c)]) (i := i) (c := c) h1 hi hc h7
    have k3 := c_X9_ofClock (l := l) (D := D) (ad := ad) (tc := tc) (L := L) (xs := xs) (sl := sl) (E := E ++ [dl (lsX Q true i c) (lsX Q false i c)]) (v := sV Q.X i) (k := 0) h2'.1.1 (by rw [h3]; exact e3a.2) (by decide)
    have br := Q_br (c := c) (b := true) hi
    have hb4 := (T_ok h (jOf_r (b := true) hc3).2 (jOf_r (b := true) hc3).1).2.2.2 i
    have hp := (Inq_X h).1.2.2.2.2.2.2.2.1 (sV Q.X i) (by omega)
    have hp0 := nI_self hp.1 (by decide)
    have hp1 : cTell S2 (sV Q.X i) 0 = nI (per Q.X (sV Q.X i)) := ((Inq_TS h2').1 _ _ (by omega)).trans hp0.1
    have hp2 : per Q.X (sV Q.X i) ≤ 160 := hp0.2
    refine ⟨S2, h2', fun r h' z => ?_⟩
    refine rn_iload dL_law_137 rfl ?_
    refine rn_iconst (v := 2) dL_law_139 rfl ?_
    refine rn_icmp_ge (tgt := 299) dL_law_140 rfl (fun q1 => absurd q1 (by rw [show (2 : Int32) = nI 2 by decide]; exact nI_ge (by omega) (by decide))) (fun _ => ?_)
    refine rn_aload_n dL_law_143 rfl ?_
    refine rn_iload dL_law_144 rfl ?_
    refine rnX_aald (RWs_app hR) (by omega) (by decide) dL_law_146 ?_
    refine rn_iconst (v := nI 0) dL_law_147 (by decide) ?_
    refine rnE_iald dL_law_148 e1a (vp_in_nI (by decide) (by decide)) ?_
    rw [nI_clamp (by decide)]
    refine rn_topi (y := kd Q.X i) e2a ?_
    refine rn_bipush (v := 7) dL_law_149 rfl ?_
    refine rn_icmp_ne (tgt := 197) dL_law_151 rfl (fun q2 => absurd q2 (by exact fun z9 => z9 h7)) (fun _ => ?_)
    refine rn_aload_n dL_law_154 rfl ?_
    refine rn_iload dL_law_155 rfl ?_
    refine rn_iload dL_law_157 rfl ?_
    refine rn_callV dL_law_159 cv_L_72 k1 rfl h_SH rfl rfl (by decide) (by decide) rfl (Nat.le_of_ble_eq_true rfl) ?_
    refine rn_dcon0 dL_law_162 ?_
    refine rn_dcmpv dL_law_163 (dB_of (by omega) (by omega)) dB_0 ?_
    refine rn_if_lt (tgt := 195) dL_law_164 rfl (fun q3 => absurd q3 (by exact fun z9 => by have := cmpI_lt.mp z9; omega)) (fun _ => ?_)
    refine rn_aload_n dL_law_167 rfl ?_
    refine rn_iload dL_law_168 rfl ?_
    refine rn_iload dL_law_170 rfl ?_
    refine rn_callV dL_law_172 cv_L_72 k2 rfl h_SH rfl rfl (by decide) (by decide) rfl (Nat.le_of_ble_eq_true rfl) ?_
    refine rn_aload_n dL_law_175 rfl ?_
    refine rn_aload_n dL_law_176 rfl ?_
    refine rn_iload dL_law_177 rfl ?_
    refine rnX_aald (RWs_app hR) (by omega) (by decide) dL_law_179 ?_
    refine rn_iconst (v := nI 3) dL_law_180 (by decide) ?_
    refine rnE_iald dL_law_181 e1a (vp_in_nI (by decide) (by decide)) ?_
    rw [nI_clamp (by decide)]
    refine rn_topi (y := nI (sV Q.X i)) e3a.1 ?_
    refine rn_iconst (v := nI 0) dL_law_182 (by decide) ?_
    refine rn_callV dL_law_183 cv_L_76 k3 rfl h_SH rfl rfl (by decide) (by decide) rfl (Nat.le_of_ble_eq_true rfl) ?_
    refine rn_i2dv dL_law_186 ?_
    refine rn_ldc2d dL_law_187 wd_606 ?_
    refine rn_ddiv dL_law_190 (by rw [half hp1 (by omega)]; exact dv_n _) ?_
    refine rn_topd (half hp1 (by omega)) ?_
    refine rn_dcmpv dL_law_191 (dB_of (by omega) (by omega)) (dB_of (by omega) (by omega)) ?_
    refine rn_if_le (tgt := 197) dL_law_192 rfl (fun _ => ?_) (fun q4 => absurd (by exact cmpI_le.mpr (by omega)) q4)
    exact rn_subg rfl z
  · refine ⟨S, h, fun r h' z => ?_⟩
    refine rn_iload dL_law_137 rfl ?_
    refine rn_iconst (v := 2) dL_law_139 rfl ?_
    refine rn_icmp_ge (tgt := 299) dL_law_140 rfl (fun q1 => absurd q1 (by rw [show (2 : Int32) = nI 2 by decide]; exact nI_ge (by omega) (by decide))) (fun _ => ?_)
    refine rn_aload_n dL_law_143 rfl ?_
    refine rn_iload dL_law_144 rfl ?_
    refine rnX_aald (RWs_app hR) (by omega) (by decide) dL_law_146 ?_
    refine rn_iconst (v := nI 0) dL_law_147 (by decide) ?_
    refine rnE_iald dL_law_148 e1a (vp_in_nI (by decide) (by decide)) ?_
    rw [nI_clamp (by decide)]
    refine rn_topi (y := kd Q.X i) e2a ?_
    refine rn_bipush (v := 7) dL_law_149 rfl ?_
    refine rn_icmp_ne (tgt := 197) dL_law_151 rfl (fun _ => ?_) (fun q2 => absurd q2 (by exact h7))
    exact rn_subg rfl z
set_option maxRecDepth 20000 in
theorem lp_corners (h11 : Q.n = 11) (h2 : Q.nc = 2) (h3 : Q.nk = 3) (hE : E.length = 23) (hR : RWs Q.X E 11) (hi : i < Q.n) : ∀ m c : Nat, c + m = 2 → ∀ S, Inq Q S → ∃ S2, Inq Q S2 ∧ ∀ (r : Option Value) (h' : j_H), Rn l D ad tc L xs mL_law 12 400 299 [(8, .int (bI (enB Q.X i))), (6, .int ck), (7, .int (nI i)), (5, .ref 108), (3, .long sm), (2, .ref 85), (1, .ref 1), (0, .ref 0)] [] (wd S2 (E ++ [dl (lsX Q true i 2) (lsX Q false i 2)]), sl) r h' → Rn l D ad tc L xs mL_law 12 400 137 [(9, .int (nI c)), (8, .int (bI (enB Q.X i))), (6, .int ck), (7, .int (nI i)), (5, .ref 108), (3, .long sm), (2, .ref 85), (1, .ref 1), (0, .ref 0)] [] (wd S (E ++ [dl (lsX Q true i c) (lsX Q false i c)]), sl) r h' := by
  intro m
  induction m with
  | zero =>
    intro c hc S h
    have hc' : c = 2 := by omega
    subst hc'
    refine ⟨S, h, fun r h' z => ?_⟩
    refine rn_iload dL_law_137 rfl ?_
    refine rn_iconst (v := 2) dL_law_139 rfl ?_
    refine rn_icmp_ge (tgt := 299) dL_law_140 rfl (fun _ => ?_) (fun q1 => absurd (by decide) q1)
    exact rn_subg rfl z
  | succ m ih =>
    intro c hc S h
    obtain ⟨S1, h1, k1⟩ := lp_137 (l := l) (D := D) (ad := ad) (tc := tc) (L := L) (xs := xs) (sl := sl) (sm := sm) (ck := ck) h11 h2 h3 hE hR hi (c := c) (by omega) h
    obtain ⟨S2, h2', k2⟩ := lp_197 (l := l) (D := D) (ad := ad) (tc := tc) (L := L) (xs := xs) (sl := sl) (sm := sm) (ck := ck) h11 h2 hE hR hi (c := c) (by omega) h1
    obtain ⟨S3, h3', k3⟩ := ih (c + 1) (by omega) S2 h2'
    exact ⟨S3, h3', fun r h' z => k1 r h' (k2 r h' (k3 r h' z))⟩
end LN
