/-! Timing: the tables over the whole numbers; depart and pass -/
abbrev TT : Type := (Nat → Int) × (Nat → Int) × (Nat → Int) × (Nat → Int)
def upZ (A : Nat → Int) (k : Nat) (v : Int) : Nat → Int := fun x => if x = k then v else A x
theorem upZ_dv (A : Nat → Int) (k : Nat) (v : Int) : vf_upd (fun i => dv (A i)) k (dv v) = fun i => dv (upZ A k v i) := by
  funext i
  unfold vf_upd upZ
  by_cases h : i = k
  · rw [if_pos h, if_pos h]
  · rw [if_neg h, if_neg h]
/-- the state with the tables t (arrivals, lefts, leasts, borrows) of the timing j -/
def sT (S : jS) (j : Nat) (t : TT) : jS := (S.1, S.2.1, fun a => if a = 5 * j + 50 then (fun i => dv (t.1 i)) else if a = 5 * j + 51 then (fun i => dv (t.2.1 i)) else if a = 5 * j + 52 then (fun i => dv (t.2.2.1 i)) else if a = 5 * j + 53 then (fun i => dv (t.2.2.2 i)) else S.2.2.1 a, S.2.2.2)
theorem sT_a (S : jS) (j : Nat) (t : TT) : (sT S j t).2.2.1 (5 * j + 50) = fun i => dv (t.1 i) := if_pos rfl
theorem sT_l (S : jS) (j : Nat) (t : TT) : (sT S j t).2.2.1 (5 * j + 51) = fun i => dv (t.2.1 i) := by
  show ite _ _ _ = _
  rw [if_neg (by omega), if_pos rfl]
theorem sT_m (S : jS) (j : Nat) (t : TT) : (sT S j t).2.2.1 (5 * j + 52) = fun i => dv (t.2.2.1 i) := by
  show ite _ _ _ = _
  rw [if_neg (by omega), if_neg (by omega), if_pos rfl]
theorem sT_b (S : jS) (j : Nat) (t : TT) : (sT S j t).2.2.1 (5 * j + 53) = fun i => dv (t.2.2.2 i) := by
  show ite _ _ _ = _
  rw [if_neg (by omega), if_neg (by omega), if_neg (by omega), if_pos rfl]
theorem sT_o {S : jS} {j a : Nat} {t : TT} (h : a < 50) : (sT S j t).2.2.1 a = S.2.2.1 a := by
  show ite _ _ _ = _
  rw [if_neg (by omega), if_neg (by omega), if_neg (by omega), if_neg (by omega)]
theorem sT_pA (S : jS) (j : Nat) (A L M B : Nat → Int) (k : Nat) (v : Int) : pD (sT S j (A, L, M, B)) (5 * j + 50) (vf_upd ((sT S j (A, L, M, B)).2.2.1 (5 * j + 50)) k (dv v)) = sT S j (upZ A k v, L, M, B) := by
  rw [sT_a, upZ_dv]
  unfold pD sT
  congr 3
  funext a
  unfold up1
  by_cases h : a = 5 * j + 50
  · simp [h]
  · simp [h]
theorem sT_pL (S : jS) (j : Nat) (A L M B : Nat → Int) (k : Nat) (v : Int) : pD (sT S j (A, L, M, B)) (5 * j + 51) (vf_upd ((sT S j (A, L, M, B)).2.2.1 (5 * j + 51)) k (dv v)) = sT S j (A, upZ L k v, M, B) := by
  rw [sT_l, upZ_dv]
  unfold pD sT
  congr 3
  funext a
  unfold up1
  by_cases h : a = 5 * j + 51
  · simp [h]
  · simp [h]
theorem sT_pM (S : jS) (j : Nat) (A L M B : Nat → Int) (k : Nat) (v : Int) : pD (sT S j (A, L, M, B)) (5 * j + 52) (vf_upd ((sT S j (A, L, M, B)).2.2.1 (5 * j + 52)) k (dv v)) = sT S j (A, L, upZ M k v, B) := by
  rw [sT_m, upZ_dv]
  unfold pD sT
  congr 3
  funext a
  unfold up1
  by_cases h : a = 5 * j + 52
  · simp [h]
  · simp [h]
theorem sT_pB (S : jS) (j : Nat) (A L M B : Nat → Int) (k : Nat) (v : Int) : pD (sT S j (A, L, M, B)) (5 * j + 53) (vf_upd ((sT S j (A, L, M, B)).2.2.1 (5 * j + 53)) k (dv v)) = sT S j (A, L, M, upZ B k v) := by
  rw [sT_b, upZ_dv]
  unfold pD sT
  congr 3
  funext a
  unfold up1
  by_cases h : a = 5 * j + 53
  · simp [h]
  · simp [h]
/-- an arrival at a node is no more than its place allows: of what stands there from before, too -/
def okA (A : Nat → Int) : Prop := ∀ x, 0 ≤ A x ∧ A x ≤ 400000 + (x % 32 / 2 + 1 : Nat) * 1088000
theorem okA_u {A : Nat → Int} {k : Nat} {v : Int} (h : okA A) (h1 : 0 ≤ v) (h2 : v ≤ 400000 + (k % 32 / 2 + 1 : Nat) * 1088000) : okA (upZ A k v) := by
  intro x
  unfold upZ
  by_cases hx : x = k
  · rw [if_pos hx, hx]
    exact ⟨h1, h2⟩
  · rw [if_neg hx]
    exact h x
theorem okA_x {A : Nat → Int} (h : okA A) (x : Nat) : 0 ≤ A x ∧ A x ≤ 18000000 := by
  have := h x
  omega
/-- a start's own arrivals -/
def mDep (A : Nat → Int) (s : Nat) (b d0 d1 : Int) : Nat → Int := upZ (upZ A (s * 32 + s * 2 + 0) (b + d0)) (s * 32 + s * 2 + 1) (b + d1)
def mP1 (S : jS) (j q e : Nat) (d : Int) (s : Nat) (A : Nat → Int) : Nat → Int := if bitR (sA S 39) s q = true ∧ mSrc S j (fun c => A (s * 32 + c)) s q e ≠ -1 then upZ A (s * 32 + (q * 2 + e)) (A (s * 32 + (mSrc S j (fun c => A (s * 32 + c)) s q e).toNatClampNeg) + d) else A
def mPs (S : jS) (j q e : Nat) (d : Int) (A : Nat → Int) : Nat → Nat → Int
  | 0 => A
  | s + 1 => mP1 S j q e d s (mPs S j q e d A s)
def mPass (S : jS) (j q kl ke : Nat) (p : Int) (A : Nat → Int) : Nat → Int := mPs S j q 1 (mDl j kl ke p 1) (mPs S j q 0 (mDl j kl ke p 0) A q) q
theorem srcS_r {j : Nat} {A : Nat → Int} {ok : Bool} {c q : Nat} {b : Int32} (hb : b = -1 ∨ ∃ c, c < 2 * q ∧ b = nI c) (hc : ok = true → c < 2 * q) : srcS j A ok c b = -1 ∨ ∃ k, k < 2 * q ∧ srcS j A ok c b = nI k := by
  unfold srcS
  by_cases h : ok = true ∧ (b = -1 ∨ (if isLateT j = 0 then A c < A b.toNatClampNeg else A b.toNatClampNeg < A c))
  · rw [if_pos h]
    exact Or.inr ⟨c, hc h.1, rfl⟩
  · rw [if_neg h]
    exact hb
theorem okC_r {S : jS} {s i e f q : Nat} {v : Int32} (hf : f ≤ 1) (hq : q ≤ 16) (hv : v = -1 ∨ ∃ a, a < q ∧ v = nI a) (h : okC S s i e v f = true) : v.toNatClampNeg * 2 + f < 2 * q := by
  unfold okC at h
  simp only [Bool.and_eq_true, decide_eq_true_eq] at h
  obtain ⟨a, ha, rfl⟩ := hv.resolve_left h.1.1
  rw [nI_clamp (by omega)]
  omega
theorem mSrc_r {S : jS} {j s i e : Nat} {A : Nat → Int} (hi : i ≤ 16) (h1 : fe1 S i = -1 ∨ ∃ a, a < i ∧ fe1 S i = nI a) (h2 : fe2 S i = -1 ∨ ∃ a, a < i ∧ fe2 S i = nI a) : mSrc S j A s i e = -1 ∨ ∃ c, c < 2 * i ∧ mSrc S j A s i e = nI c := by
  unfold mSrc
  exact srcS_r (srcS_r (srcS_r (srcS_r (Or.inl rfl) (okC_r (f := 0) (by decide) hi h1)) (okC_r (f := 1) (by decide) hi h1)) (okC_r (f := 0) (by decide) hi h2)) (okC_r (f := 1) (by decide) hi h2)
theorem mP1_t {S : jS} {j q e s : Nat} {d : Int} {A : Nat → Int} (h : bitR (sA S 39) s q = true) : (if mSrc S j (fun c => A (s * 32 + c)) s q e ≠ -1 then upZ A (s * 32 + (q * 2 + e)) (A (s * 32 + (mSrc S j (fun c => A (s * 32 + c)) s q e).toNatClampNeg) + d) else A) = mP1 S j q e d s A := by
  unfold mP1
  by_cases hz : mSrc S j (fun c => A (s * 32 + c)) s q e ≠ -1
  · rw [if_pos hz, if_pos ⟨h, hz⟩]
  · rw [if_neg hz, if_neg (fun z => hz z.2)]
theorem mP1_f {S : jS} {j q e s : Nat} {d : Int} {A : Nat → Int} (h : bitR (sA S 39) s q = false) : (if (-1 : Int32) ≠ -1 then upZ A (s * 32 + (q * 2 + e)) (A (s * 32 + (-1 : Int32).toNatClampNeg) + d) else A) = mP1 S j q e d s A := by
  unfold mP1
  rw [if_neg (by decide), if_neg (fun z => by rw [h] at z; exact absurd z.1 (by decide))]
theorem mP1_ok {S : jS} {j q e s : Nat} {d : Int} {A : Nat → Int} (hq : q < 16) (he : e ≤ 1) (h : okA A) (hd : 0 ≤ d ∧ d ≤ 1088000) (h1 : fe1 S q = -1 ∨ ∃ a, a < q ∧ fe1 S q = nI a) (h2 : fe2 S q = -1 ∨ ∃ a, a < q ∧ fe2 S q = nI a) : okA (mP1 S j q e d s A) := by
  unfold mP1
  split
  · next hc =>
    obtain ⟨c, hc1, hc2⟩ := (mSrc_r (j := j) (s := s) (e := e) (A := fun c => A (s * 32 + c)) (by omega) h1 h2).resolve_left hc.2
    rw [hc2, nI_clamp (by omega)]
    have hx := h (s * 32 + c)
    exact okA_u h (by omega) (by omega)
  · exact h
theorem mPs_ok {S : jS} {j q e : Nat} {d : Int} {A : Nat → Int} (hq : q < 16) (he : e ≤ 1) (h : okA A) (hd : 0 ≤ d ∧ d ≤ 1088000) (h1 : fe1 S q = -1 ∨ ∃ a, a < q ∧ fe1 S q = nI a) (h2 : fe2 S q = -1 ∨ ∃ a, a < q ∧ fe2 S q = nI a) : ∀ s, okA (mPs S j q e d A s)
  | 0 => h
  | s + 1 => mP1_ok hq he (mPs_ok hq he h hd h1 h2 s) hd h1 h2
section T5
variable {l : Launch} {D : va_G} {ad : Nat → Nat} {tc : Nat → ClassId} {L : Nat} {xs : Nat → Int32} {S : jS} {E : List j_C} {sl x : Nat}
set_option maxRecDepth 20000 in
theorem lp_dep {j s c kl ke e : Nat} {p : Int} {A LL M BB : Nat → Int} {r : Option Value} {h' : j_H} (hj : j < 7) (hs : s < 16) (hc : c < 3) (hkl : sD S (c + 10) 0 = dv (512 * kl)) (hke : sD S (c + 10) 1 = dv (512 * ke)) (hl1 : kl ≤ 16) (hk1 : ke ≤ kl) (hr : sD S (xT j + 2) s = dv (32 * p)) (hp : 0 ≤ p) (hp2 : p ≤ 17000) (hb : 0 ≤ BB s ∧ BB s ≤ 400000) (he : e ≤ 1)
    (K : Rn l D ad tc L xs mX8_depart 2 45 36 [(3, .int (nI e)), (0, .ref (5 * j + 50)), (1, .int (nI s)), (2, .ref (c + 11))] [] (wd (sT S j (upZ A (s * 32 + s * 2 + e) (BB s + mDl j kl ke p e), LL, M, BB)) E, sl) r h') : Rn l D ad tc L xs mX8_depart 2 45 7 [(3, .int (nI e)), (0, .ref (5 * j + 50)), (1, .int (nI s)), (2, .ref (c + 11))] [] (wd (sT S j (A, LL, M, BB)) E, sl) r h' := by
  have hdl := mDl_r (j := j) (kl := kl) (ke := ke) (e := e) (p := p) hl1 (by omega) hp hp2
  refine rn_aload_n dX8_depart_7 rfl ?_
  refine rn_getfield dX8_depart_8 fo_X8_9 (h_tim (by omega)) rfl ?_
  refine rn_iload_n dX8_depart_11 rfl ?_
  refine rn_bipush (v := nI 32) dX8_depart_12 (by decide) ?_
  refine rn_imul dX8_depart_14 ?_
  refine rn_topi (nI_mul _ _) ?_
  refine rn_iload_n dX8_depart_15 rfl ?_
  refine rn_iconst (v := nI 2) dX8_depart_16 (by decide) ?_
  refine rn_imul dX8_depart_17 ?_
  refine rn_topi (nI_mul _ _) ?_
  refine rn_iadd dX8_depart_18 ?_
  refine rn_topi (nI_add _ _) ?_
  refine rn_iload_n dX8_depart_19 rfl ?_
  refine rn_iadd dX8_depart_20 ?_
  refine rn_topi (nI_add _ _) ?_
  refine rn_aload_n dX8_depart_21 rfl ?_
  refine rn_getfield dX8_depart_22 fo_X8_21 (h_tim (by omega)) rfl ?_
  refine rn_iload_n dX8_depart_25 rfl ?_
  refine rn_daload dX8_depart_26 (h_borrows (by omega)) rfl (vp_in_nI (by omega) (by decide)) ?_
  rw [nI_clamp (by omega)]
  rw [show sD (sT S j (A, LL, M, BB)) (5 * j + 53) s = dv (BB s) from congrFun (sT_b _ _ _) s]
  refine rn_aload_n dX8_depart_27 rfl ?_
  refine rn_iload_n dX8_depart_28 rfl ?_
  refine rn_iload_n dX8_depart_29 rfl ?_
  refine rn_aload_n dX8_depart_30 rfl ?_
  refine rn_callV dX8_depart_31 cv_X8_90 (c_X8_delayOf (S := sT S j (_, _, _, _)) hj (by omega) (by omega) hc ((congrFun (sT_o (by omega)) 0).trans hkl) ((congrFun (sT_o (by omega)) 1).trans hke) hl1 (by omega) ((congrFun (sT_o (by rcases xT_x j with h | h <;> omega)) _).trans hr) hp hp2) rfl (h_tim (by omega)) rfl rfl (by decide) (by decide) rfl (Nat.le_of_ble_eq_true rfl) ?_
  refine rn_daddv dX8_depart_34 (dB_of (by omega) (by omega)) (dB_of (by omega) (by omega)) ?_
  refine rn_pD (a := 5 * _ + 50) dX8_depart_35 (by omega) cc_arr pD_arr (vp_in_nI (by omega) (by decide)) ?_
  rw [nI_clamp (by omega)]
  refine rn_eq (congrArg (fun z => (wd z E, sl)) (sT_pA S j A LL M BB _ _)) ?_
  exact rn_subg rfl K
set_option maxRecDepth 20000 in
theorem c_X8_depart {j s c kl ke : Nat} {p : Int} {A LL M BB : Nat → Int} (hj : j < 7) (hs : s < 16) (hc : c < 3) (hkl : sD S (c + 10) 0 = dv (512 * kl)) (hke : sD S (c + 10) 1 = dv (512 * ke)) (hl1 : kl ≤ 16) (hk1 : ke ≤ kl) (hr : sD S (xT j + 2) s = dv (32 * p)) (hp : 0 ≤ p) (hp2 : p ≤ 17000) (hb : 0 ≤ BB s ∧ BB s ≤ 400000) : Cn l D ad tc L xs mX8_depart 2 45 [.ref (5 * j + 50), .int (nI s), .ref (c + 11)] (wd (sT S j (A, LL, M, BB)) E, sl) none (wd (sT S j (mDep A s (BB s) (mDl j kl ke p 0) (mDl j kl ke p 1), LL, M, BB)) E, sl) := by
  refine cn_of (lv0 := [(0, .ref (5 * j + 50)), (1, .int (nI s)), (2, .ref (c + 11))]) (by decide +kernel) rfl (fun _ => by simp [lg_sl, j_v, Value.category]) (fun _ => rfl) ?_
  refine rn_iconst (v := 0) dX8_depart_0 rfl ?_
  refine rn_istore_n dX8_depart_1 (by decide) rfl ?_
  refine rn_iload_n dX8_depart_2 rfl ?_
  refine rn_iconst (v := 1) dX8_depart_3 rfl ?_
  refine rn_icmp_gt (tgt := 42) dX8_depart_4 rfl (fun q => absurd q (by decide)) (fun _ => ?_)
  refine rn_subg (lv' := [(3, .int (nI 0)), (0, .ref (5 * j + 50)), (1, .int (nI s)), (2, .ref (c + 11))]) rfl (lp_dep hj hs hc hkl hke hl1 hk1 hr hp hp2 hb (by decide) ?_)
  refine rn_iinc (v := 1) dX8_depart_36 rfl (by decide) (by decide) rfl ?_
  refine rn_goto (tgt := 2) dX8_depart_39 rfl ?_
  refine rn_iload_n dX8_depart_2 rfl ?_
  refine rn_iconst (v := 1) dX8_depart_3 rfl ?_
  refine rn_icmp_gt (tgt := 42) dX8_depart_4 rfl (fun q => absurd q (by decide)) (fun _ => ?_)
  refine rn_subg (lv' := [(3, .int (nI 1)), (0, .ref (5 * j + 50)), (1, .int (nI s)), (2, .ref (c + 11))]) rfl (lp_dep hj hs hc hkl hke hl1 hk1 hr hp hp2 hb (by decide) ?_)
  refine rn_iinc (v := 2) dX8_depart_36 rfl (by decide) (by decide) rfl ?_
  refine rn_goto (tgt := 2) dX8_depart_39 rfl ?_
  refine rn_iload_n dX8_depart_2 rfl ?_
  refine rn_iconst (v := 1) dX8_depart_3 rfl ?_
  refine rn_icmp_gt (tgt := 42) dX8_depart_4 rfl (fun _ => ?_) (fun q => absurd (by decide) q)
  exact rn_ret dX8_depart_42 trivial rfl
set_option maxRecDepth 20000 in
theorem lp_passB {j q s c e : Nat} {d : Int} {v : Int32} {A LL M BB : Nat → Int} {r : Option Value} {h' : j_H} (hj : j < 7) (hs : s < 16) (hq : q < 16) (he : e ≤ 1) (hA : okA A) (hd : 0 ≤ d ∧ d ≤ 1088000) (hv : v = -1 ∨ ∃ c, c < 2 * q ∧ v = nI c)
    (K : Rn l D ad tc L xs mX8_pass 2 56 26 [(7, .int (nI (s + 1))), (5, .double (dv d)), (4, .int (nI (q * 2 + e))), (3, .int (nI e)), (0, .ref (5 * j + 50)), (1, .int (nI q)), (2, .ref (c + 11))] [] (wd (sT S j (if v ≠ -1 then upZ A (s * 32 + (q * 2 + e)) (A (s * 32 + v.toNatClampNeg) + d) else A, LL, M, BB)) E, sl) r h') : Rn l D ad tc L xs mX8_pass 2 56 59 [(8, .int v), (7, .int (nI s)), (5, .double (dv d)), (4, .int (nI (q * 2 + e))), (3, .int (nI e)), (0, .ref (5 * j + 50)), (1, .int (nI q)), (2, .ref (c + 11))] [] (wd (sT S j (A, LL, M, BB)) E, sl) r h' := by
  rcases hv with rfl | ⟨cc0, hc0, rfl⟩
  · rw [if_neg (by decide)] at K
    refine rn_iload dX8_pass_59 rfl ?_
    refine rn_iconst (v := (-1)) dX8_pass_61 rfl ?_
    refine rn_icmp_eq (tgt := 94) dX8_pass_62 rfl (fun _ => ?_) (fun q1 => absurd (by rfl) q1)
    refine rn_iinc dX8_pass_94 rfl (nI_1 _) (by decide) rfl ?_
    refine rn_goto (tgt := 26) dX8_pass_97 rfl ?_
    exact rn_subg rfl K
  · have hv0 : nI cc0 ≠ -1 := fun z => by
      have := congrArg Int32.toInt z
      rw [nI_toInt (by omega), show (-1 : Int32).toInt = -1 by decide] at this
      omega
    rw [if_pos hv0, nI_clamp (by omega)] at K
    have hx := okA_x hA (s * 32 + cc0)
    refine rn_iload dX8_pass_59 rfl ?_
    refine rn_iconst (v := (-1)) dX8_pass_61 rfl ?_
    refine rn_icmp_eq (tgt := 94) dX8_pass_62 rfl (fun q1 => absurd q1 (by exact hv0)) (fun _ => ?_)
    refine rn_aload_n dX8_pass_65 rfl ?_
    refine rn_getfield dX8_pass_66 fo_X8_9 (h_tim (by omega)) rfl ?_
    refine rn_iload dX8_pass_69 rfl ?_
    refine rn_bipush (v := nI 32) dX8_pass_71 (by decide) ?_
    refine rn_imul dX8_pass_73 ?_
    refine rn_topi (nI_mul _ _) ?_
    refine rn_iload dX8_pass_74 rfl ?_
    refine rn_iadd dX8_pass_76 ?_
    refine rn_topi (nI_add _ _) ?_
    refine rn_aload_n dX8_pass_77 rfl ?_
    refine rn_getfield dX8_pass_78 fo_X8_9 (h_tim (by omega)) rfl ?_
    refine rn_iload dX8_pass_81 rfl ?_
    refine rn_bipush (v := nI 32) dX8_pass_83 (by decide) ?_
    refine rn_imul dX8_pass_85 ?_
    refine rn_topi (nI_mul _ _) ?_
    refine rn_iload dX8_pass_86 rfl ?_
    refine rn_iadd dX8_pass_88 ?_
    refine rn_topi (nI_add _ _) ?_
    refine rn_daload dX8_pass_89 (h_arr (by omega)) rfl (vp_in_nI (by omega) (by decide)) ?_
    rw [nI_clamp (by omega)]
    rw [show sD (sT S j (A, LL, M, BB)) (5 * j + 50) (s * 32 + cc0) = dv (A (s * 32 + cc0)) from congrFun (sT_a _ _ _) _]
    refine rn_dload dX8_pass_90 rfl ?_
    refine rn_daddv dX8_pass_92 (dB_of (by omega) (by omega)) (dB_of (by omega) (by omega)) ?_
    refine rn_pD (a := 5 * _ + 50) dX8_pass_93 (by omega) cc_arr pD_arr (vp_in_nI (by omega) (by decide)) ?_
    rw [nI_clamp (by omega)]
    refine rn_eq (congrArg (fun z => (wd z E, sl)) (sT_pA S j A LL M BB _ _)) ?_
    refine rn_iinc dX8_pass_94 rfl (nI_1 _) (by decide) rfl ?_
    refine rn_goto (tgt := 26) dX8_pass_97 rfl ?_
    exact rn_subg rfl K
set_option maxRecDepth 20000 in
theorem lp_passI {j q c e : Nat} {d : Int} {A LL M BB : Nat → Int} {r : Option Value} {h' : j_H} (hj : j < 7) (hq : q < 16) (he : e ≤ 1) (hA : okA A) (hd : 0 ≤ d ∧ d ≤ 1088000) (h1 : fe1 S q = -1 ∨ ∃ a, a < q ∧ fe1 S q = nI a) (h2 : fe2 S q = -1 ∨ ∃ a, a < q ∧ fe2 S q = nI a)
    (K : Rn l D ad tc L xs mX8_pass 2 56 100 [(5, .double (dv d)), (4, .int (nI (q * 2 + e))), (3, .int (nI e)), (0, .ref (5 * j + 50)), (1, .int (nI q)), (2, .ref (c + 11))] [] (wd (sT S j (mPs S j q e d A q, LL, M, BB)) E, sl) r h') : ∀ m s : Nat, s + m = q → Rn l D ad tc L xs mX8_pass 2 56 26 [(7, .int (nI s)), (5, .double (dv d)), (4, .int (nI (q * 2 + e))), (3, .int (nI e)), (0, .ref (5 * j + 50)), (1, .int (nI q)), (2, .ref (c + 11))] [] (wd (sT S j (mPs S j q e d A s, LL, M, BB)) E, sl) r h' := by
  intro m
  induction m with
  | zero =>
    intro s hk
    have hk' : q = s := by omega
    subst hk'
    refine rn_iload dX8_pass_26 rfl ?_
    refine rn_iload_n dX8_pass_28 rfl ?_
    refine rn_icmp_ge (tgt := 100) dX8_pass_29 rfl (fun _ => ?_) (fun q1 => absurd (by exact Int32.le_refl _) q1)
    exact rn_subg rfl K
  | succ m ih =>
    intro s hk
    have ih := ih (s + 1) (by omega)
    have hAo := mPs_ok (j := j) hq he hA hd h1 h2 s
    have hAs : ∀ v, (v = fe1 S q ∨ v = fe2 S q) → ∀ f, f ≤ 1 → okC (sT S j (mPs S j q e d A s, LL, M, BB)) s q e v f = true → v.toNatClampNeg * 2 + f < 32 ∧ sD (sT S j (mPs S j q e d A s, LL, M, BB)) (5 * j + 50) (s * 32 + (v.toNatClampNeg * 2 + f)) = dv (mPs S j q e d A s (s * 32 + (v.toNatClampNeg * 2 + f))) ∧ dB (mPs S j q e d A s (s * 32 + (v.toNatClampNeg * 2 + f))) := by
      intro v hv f hf hk
      have hlt := okC_r (q := q) (s := s) (i := q) (e := e) (S := S) hf (by omega) (by rcases hv with rfl | rfl <;> assumption) hk
      have hx := okA_x hAo (s * 32 + (v.toNatClampNeg * 2 + f))
      exact ⟨by omega, congrFun (sT_a _ _ _) _, (dB_of (by omega) (by omega))⟩
    refine rn_iload dX8_pass_26 rfl ?_
    refine rn_iload_n dX8_pass_28 rfl ?_
    refine rn_icmp_ge (tgt := 100) dX8_pass_29 rfl (fun q1 => absurd q1 (by rw [Int32.le_iff_toInt_le, nI_toInt (by omega), nI_toInt (by omega)] at q1; omega)) (fun _ => ?_)
    refine rn_aload_n dX8_pass_32 rfl ?_
    refine rn_getfield dX8_pass_33 fo_X8_28 (h_tim (by omega)) rfl ?_
    refine rn_iload dX8_pass_36 rfl ?_
    refine rn_iload_n dX8_pass_38 rfl ?_
    refine rn_callV dX8_pass_39 cv_X8_94 (c_X6_reaches (by omega)) rfl h_paths rfl rfl (by decide) (by decide) rfl (Nat.le_of_ble_eq_true rfl) ?_
    refine rn_if_eq (tgt := 56) dX8_pass_42 rfl (fun q2 => ?_) (fun q2 => ?_)
    · rw [bI_0] at q2
      replace q2 : bitR (sA S 39) s q = false := q2
      refine rn_iconst (v := (-1)) dX8_pass_56 rfl ?_
      refine rn_istore dX8_pass_57 (by decide) rfl ?_
      refine rn_subg (lv' := [(8, .int (-1)), (7, .int (nI s)), (5, .double (dv d)), (4, .int (nI (q * 2 + e))), (3, .int (nI e)), (0, .ref (5 * j + 50)), (1, .int (nI q)), (2, .ref (c + 11))]) rfl (lp_passB hj (by omega) (by omega) he hAo hd (Or.inl rfl) ?_)
      refine rn_eq (h2 := (wd (sT S j (mPs S j q e d A (s + 1), LL, M, BB)) E, sl)) (congrArg (fun z => (wd (sT S j (z, LL, M, BB)) E, sl)) (mP1_f (d := d) q2)) ?_
      exact rn_subg rfl ih
    · rw [bI_n] at q2
      replace q2 : bitR (sA S 39) s q = true := q2
      refine rn_aload_n dX8_pass_45 rfl ?_
      refine rn_iload dX8_pass_46 rfl ?_
      refine rn_iload dX8_pass_48 rfl ?_
      refine rn_callV dX8_pass_50 cv_X8_100 (c_X8_sourceOf (S := sT S j (mPs S j q e d A s, LL, M, BB)) (A := fun c => mPs S j q e d A s (s * 32 + c)) hj (by omega) (by omega) he (h1.imp id (fun ⟨a, z⟩ => ⟨a, by omega, z.2⟩)) (h2.imp id (fun ⟨a, z⟩ => ⟨a, by omega, z.2⟩)) hAs) rfl (h_tim (by omega)) rfl rfl (by decide) (by decide) rfl (Nat.le_of_ble_eq_true rfl) ?_
      refine rn_goto (tgt := 57) dX8_pass_53 rfl ?_
      refine rn_istore dX8_pass_57 (by decide) rfl ?_
      refine rn_subg (lv' := [(8, .int (mSrc S j (fun c => mPs S j q e d A s (s * 32 + c)) s q e)), (7, .int (nI s)), (5, .double (dv d)), (4, .int (nI (q * 2 + e))), (3, .int (nI e)), (0, .ref (5 * j + 50)), (1, .int (nI q)), (2, .ref (c + 11))]) rfl (lp_passB hj (by omega) (by omega) he hAo hd (mSrc_r (by omega) h1 h2) ?_)
      refine rn_eq (h2 := (wd (sT S j (mPs S j q e d A (s + 1), LL, M, BB)) E, sl)) (congrArg (fun z => (wd (sT S j (z, LL, M, BB)) E, sl)) (mP1_t (d := d) q2)) ?_
      exact rn_subg rfl ih
set_option maxRecDepth 20000 in
theorem lp_passE {j q c kl ke e : Nat} {p : Int} {A LL M BB : Nat → Int} {r : Option Value} {h' : j_H} (hj : j < 7) (hq : q < 16) (hc : c < 3) (hkl : sD S (c + 10) 0 = dv (512 * kl)) (hke : sD S (c + 10) 1 = dv (512 * ke)) (hl1 : kl ≤ 16) (hk1 : ke ≤ kl) (hr : sD S (xT j + 2) q = dv (32 * p)) (hp : 0 ≤ p) (hp2 : p ≤ 17000) (hA : okA A) (h1 : fe1 S q = -1 ∨ ∃ a, a < q ∧ fe1 S q = nI a) (h2 : fe2 S q = -1 ∨ ∃ a, a < q ∧ fe2 S q = nI a) (he : e ≤ 1)
    (K : Rn l D ad tc L xs mX8_pass 2 56 100 [(5, .double (dv (mDl j kl ke p e))), (4, .int (nI (q * 2 + e))), (3, .int (nI e)), (0, .ref (5 * j + 50)), (1, .int (nI q)), (2, .ref (c + 11))] [] (wd (sT S j (mPs S j q e (mDl j kl ke p e) A q, LL, M, BB)) E, sl) r h') : Rn l D ad tc L xs mX8_pass 2 56 7 [(3, .int (nI e)), (0, .ref (5 * j + 50)), (1, .int (nI q)), (2, .ref (c + 11))] [] (wd (sT S j (A, LL, M, BB)) E, sl) r h' := by
  refine rn_iload_n dX8_pass_7 rfl ?_
  refine rn_iconst (v := nI 2) dX8_pass_8 (by decide) ?_
  refine rn_imul dX8_pass_9 ?_
  refine rn_topi (nI_mul _ _) ?_
  refine rn_iload_n dX8_pass_10 rfl ?_
  refine rn_iadd dX8_pass_11 ?_
  refine rn_topi (nI_add _ _) ?_
  refine rn_istore dX8_pass_12 (by decide) rfl ?_
  refine rn_aload_n dX8_pass_14 rfl ?_
  refine rn_iload_n dX8_pass_15 rfl ?_
  refine rn_iload_n dX8_pass_16 rfl ?_
  refine rn_aload_n dX8_pass_17 rfl ?_
  refine rn_callV dX8_pass_18 cv_X8_90 (c_X8_delayOf (S := sT S j (_, _, _, _)) hj (by omega) (by omega) hc ((congrFun (sT_o (by omega)) 0).trans hkl) ((congrFun (sT_o (by omega)) 1).trans hke) hl1 (by omega) ((congrFun (sT_o (by rcases xT_x j with h | h <;> omega)) _).trans hr) hp hp2) rfl (h_tim (by omega)) rfl rfl (by decide) (by decide) rfl (Nat.le_of_ble_eq_true rfl) ?_
  refine rn_dstore dX8_pass_21 (by decide) rfl ?_
  refine rn_iconst (v := 0) dX8_pass_23 rfl ?_
  refine rn_istore dX8_pass_24 (by decide) rfl ?_
  exact rn_subg rfl (lp_passI hj hq he hA (mDl_r hl1 (by omega) hp hp2) h1 h2 K q 0 (by omega))
set_option maxRecDepth 20000 in
theorem c_X8_pass {j q c kl ke : Nat} {p : Int} {A LL M BB : Nat → Int} (hj : j < 7) (hq : q < 16) (hc : c < 3) (hkl : sD S (c + 10) 0 = dv (512 * kl)) (hke : sD S (c + 10) 1 = dv (512 * ke)) (hl1 : kl ≤ 16) (hk1 : ke ≤ kl) (hr : sD S (xT j + 2) q = dv (32 * p)) (hp : 0 ≤ p) (hp2 : p ≤ 17000) (hA : okA A) (h1 : fe1 S q = -1 ∨ ∃ a, a < q ∧ fe1 S q = nI a) (h2 : fe2 S q = -1 ∨ ∃ a, a < q ∧ fe2 S q = nI a) : Cn l D ad tc L xs mX8_pass 2 56 [.ref (5 * j + 50), .int (nI q), .ref (c + 11)] (wd (sT S j (A, LL, M, BB)) E, sl) none (wd (sT S j (mPass S j q kl ke p A, LL, M, BB)) E, sl) := by
  refine cn_of (lv0 := [(0, .ref (5 * j + 50)), (1, .int (nI q)), (2, .ref (c + 11))]) (by decide +kernel) rfl (fun _ => by simp [lg_sl, j_v, Value.category]) (fun _ => rfl) ?_
  refine rn_iconst (v := 0) dX8_pass_0 rfl ?_
  refine rn_istore_n dX8_pass_1 (by decide) rfl ?_
  refine rn_iload_n dX8_pass_2 rfl ?_
  refine rn_iconst (v := 1) dX8_pass_3 rfl ?_
  refine rn_icmp_gt (tgt := 106) dX8_pass_4 rfl (fun q => absurd q (by decide)) (fun _ => ?_)
  refine rn_subg (lv' := [(3, .int (nI 0)), (0, .ref (5 * j + 50)), (1, .int (nI q)), (2, .ref (c + 11))]) rfl (lp_passE hj hq hc hkl hke hl1 hk1 hr hp hp2 hA h1 h2 (by decide) ?_)
  refine rn_iinc (v := 1) dX8_pass_100 rfl (by decide) (by decide) rfl ?_
  refine rn_goto (tgt := 2) dX8_pass_103 rfl ?_
  refine rn_iload_n dX8_pass_2 rfl ?_
  refine rn_iconst (v := 1) dX8_pass_3 rfl ?_
  refine rn_icmp_gt (tgt := 106) dX8_pass_4 rfl (fun q => absurd q (by decide)) (fun _ => ?_)
  refine rn_subg (lv' := [(3, .int (nI 1)), (0, .ref (5 * j + 50)), (1, .int (nI q)), (2, .ref (c + 11))]) rfl (lp_passE hj hq hc hkl hke hl1 hk1 hr hp hp2 (mPs_ok hq (by decide) hA (mDl_r hl1 (by omega) hp hp2) h1 h2 q) h1 h2 (by decide) ?_)
  refine rn_iinc (v := 2) dX8_pass_100 rfl (by decide) (by decide) rfl ?_
  refine rn_goto (tgt := 2) dX8_pass_103 rfl ?_
  refine rn_iload_n dX8_pass_2 rfl ?_
  refine rn_iconst (v := 1) dX8_pass_3 rfl ?_
  refine rn_icmp_gt (tgt := 106) dX8_pass_4 rfl (fun _ => ?_) (fun q => absurd (by decide) q)
  exact rn_ret dX8_pass_106 trivial rfl
end T5
