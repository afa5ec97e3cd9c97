/-! Asking: what would be with another size -/
theorem Told_5 {S S' : jS} {n nr nc nk : Nat} (h : TZ S S') (hz : ∀ k, k < 16 → sI S' (k + 13) 5 = 1 ∨ sI S' (k + 13) 5 = 2 ∨ sI S' (k + 13) 5 = 4) (hT : Told S n nr nc nk) : Told S' n nr nc nk := by
  obtain ⟨⟨a1, a2⟩, ⟨b1, b2⟩, ⟨c1, c2⟩, ⟨d1, d2⟩, e, f, g, i, c, r⟩ := hT
  refine ⟨⟨(h.1 1 6 (by decide) (by decide)).trans a1, a2⟩, ⟨(h.1 1 7 (by decide) (by decide)).trans b1, b2⟩, ⟨(h.1 1 5 (by decide) (by decide)).trans c1, c2⟩, ⟨(h.1 1 4 (by decide) (by decide)).trans d1, d2⟩, ?_, ?_, ?_, ?_, ?_, ?_⟩
  · intro k hk
    rw [show sV S' = sV S from h.2.2.2]
    exact e k hk
  · intro k hk
    have hq := f k hk
    rw [kd_s h (by omega), fe1_s h (by omega), fe2_s h (by omega)]
    exact hq
  · intro k hk
    refine ⟨hz k hk, ?_⟩
    rw [show sF S' (k + 13) 6 = sF S (k + 13) 6 from h.2.2.1 _ _ (by omega), show sI S' (k + 13) 7 = sI S (k + 13) 7 from h.1 _ _ (by omega) (by omega)]
    exact (g k hk).2
  · intro k hk
    rw [show sI S' (k + 6) 0 = sI S (k + 6) 0 from h.1 _ _ (by omega) (by omega), show sI S' (k + 6) 1 = sI S (k + 6) 1 from h.1 _ _ (by omega) (by omega), show sI S' (k + 6) 2 = sI S (k + 6) 2 from h.1 _ _ (by omega) (by omega)]
    exact i k hk
  · intro k hk
    rw [show sD S' (k + 10) 0 = sD S (k + 10) 0 from h.2.1 _ _ (by omega), show sD S' (k + 10) 1 = sD S (k + 10) 1 from h.2.1 _ _ (by omega)]
    exact c k hk
  · intro k hk
    rw [show sI S' (k + 29) 0 = sI S (k + 29) 0 from h.1 _ _ (by omega) (by omega)]
    exact r k hk
theorem Told_pI5 {S : jS} {n nr nc nk i : Nat} {z : Int32} (hi : i < 16) (hz : z = 1 ∨ z = 2 ∨ z = 4) (hT : Told S n nr nc nk) : Told (pI S (i + 13) 5 z) n nr nc nk := by
  refine Told_5 (TZ_5 S hi) (fun k hk => ?_) hT
  by_cases h : k = i
  · subst h
    rw [show sI (pI S (k + 13) 5 z) (k + 13) 5 = z from up2_eq _ _ _ _]
    exact hz
  · rw [show sI (pI S (i + 13) 5 z) (k + 13) 5 = sI S (k + 13) 5 from up2_k _ _ (by omega)]
    exact Told_z hT k hk
def QC.X2 (Q : QC) (i : Nat) (z : Int32) : jS := pI Q.X (i + 13) 5 z
def QC.p2 (Q : QC) (i : Nat) (z : Int32) : Nat → Int := fun k => rho (Q.X2 i z) k (qLd (Q.X2 i z) Q.w Q.n k)
def QC.T2 (Q : QC) (i : Nat) (z : Int32) (c : Nat) : TT := mRk (Q.X2 i z) 0 (Q.kl c) (Q.ke c) Q.n (Q.p2 i z) (fun _ => 0, fun _ => 0, fun _ => 0, fun _ => 0)
def vLW (Q : QC) (i : Nat) (z : Int32) : Nat → Int
  | 0 => 409595904
  | c + 1 => min (vLW Q i z c) (mLe Q.X (Q.T2 i z c).2.2.1 Q.n)
/-- the state of a trial -/
def LWI (Q : QC) (S : jS) (i : Nat) (z : Int32) (X : jS) : Prop := TS (pI S (i + 13) 5 z) X ∧ X.2.1 = S.2.1 ∧ (∀ a, a < 50 ∨ 54 ≤ a → a ≠ 48 → sD X a = sD S a) ∧ (∀ k, k < Q.n → sD X 48 k = dv (32 * Q.p2 i z k)) ∧ sF X 44 = sF S 44 ∧ Grid X 0 ∧ ∀ a f, 35 ≤ a → a ≠ 49 → sI X a f = sI S a f
theorem pI5_TS {S S' : jS} {i : Nat} {z : Int32} (h : TS S S') : TS (pI S (i + 13) 5 z) (pI S' (i + 13) 5 z) := by
  refine ⟨fun k f hk => ?_, h.2⟩
  show up2 S'.1 (i + 13) 5 z k f = up2 S.1 (i + 13) 5 z k f
  unfold up2
  by_cases hx : k = i + 13 ∧ f = 5
  · rw [if_pos hx, if_pos hx]
  · rw [if_neg hx, if_neg hx]
    exact h.1 k f hk
theorem X2_told {Q : QC} {S : jS} {i : Nat} {z : Int32} (h : Inq Q S) (hi : i < 16) (hz : z = 1 ∨ z = 2 ∨ z = 4) : Told (Q.X2 i z) Q.n Q.nr Q.nc Q.nk ∧ PT (Q.X2 i z) Q.n Q.nr := by
  have hx := Inq_X h
  exact ⟨Told_pI5 hi hz hx.1, PT_s (TZ_5 Q.X hi) hx.1 rfl rfl rfl rfl hx.2⟩
theorem LWI_TS {Q : QC} {S X : jS} {i : Nat} {z : Int32} (h : Inq Q S) (hx : LWI Q S i z X) : TS (Q.X2 i z) X := TS_t (pI5_TS (Inq_TS h)) hx.1
theorem LWI_TA {Q : QC} {S X : jS} {i : Nat} {z : Int32} (h : Inq Q S) (hi : i < 16) (hz : z = 1 ∨ z = 2 ∨ z = 4) (hx : LWI Q S i z X) : TA (Q.X2 i z) X := ⟨TZ_of (LWI_TS h hx), hx.2.1.trans h.2.2.2.1, (X2_told h hi hz).1.2.2.2.2.1⟩
theorem p2_r {Q : QC} {S : jS} {i : Nat} {z : Int32} (h : Inq Q S) (hi : i < 16) (hz : z = 1 ∨ z = 2 ∨ z = 4) : ∀ k, k < Q.n → 0 ≤ Q.p2 i z k ∧ Q.p2 i z k ≤ 17000 := by
  intro k hk
  have hT := (X2_told h hi hz).1
  have hn := hT.1.2
  have hq := qLd_r (Told_z hT) (fun i hi => (h.1.2.1 i hi).1) Q.n hn k (by omega)
  exact rho_r (by omega) (Told_z hT k (by omega))
theorem LWI_rises {Q : QC} {S X : jS} {i : Nat} {z : Int32} (h : Inq Q S) (hi : i < 16) (hz : z = 1 ∨ z = 2 ∨ z = 4) (hx : LWI Q S i z X) : rises X 0 Q.n (Q.p2 i z) := fun k hk => ⟨hx.2.2.2.1 k hk, p2_r h hi hz k hk⟩
theorem LWI_0 {Q : QC} {S : jS} {i : Nat} {z : Int32} (h : Inq Q S) (hi : i < 16) : LWI Q S i z (sDel (pI S (i + 13) 5 z) Q.w Q.n 46) := by
  have hn := h.1.1.1.2
  have ts : TS (Q.X2 i z) (pI S (i + 13) 5 z) := pI5_TS (Inq_TS h)
  refine ⟨TS_del _ _ _ (Or.inr rfl), rfl, fun a _ ha => ?_, fun k hk => ?_, ?_, ?_, fun a f _ _ => ?_⟩
  · exact up1_ne _ _ ha
  · show RD (pI S (i + 13) 5 z) (qLd (pI S (i + 13) 5 z) Q.w Q.n) _ Q.n k = _
    unfold RD
    rw [if_pos hk, qLd_s ts Q.n hn, rho_s ts (by omega)]
    rfl
  · show up1 (pI S (i + 13) 5 z).2.2.2.1 (46 + 1) (LF Q.n (sF (pI S (i + 13) 5 z) (46 + 1)) (qLd (pI S (i + 13) 5 z) Q.w Q.n)) 44 = _
    exact up1_ne _ _ (by decide)
  · exact Grid_c (fun a h1 _ => up1_ne _ _ (by omega)) (h.1.2.2.2.1 0 (by decide))
  · exact up2_k _ _ (by omega)
/-- one corner of a trial -/
def lwS (Q : QC) (i : Nat) (z : Int32) (c : Nat) (X : jS) (t : TT) : jS := pI (sT X 0 (mRk X 0 (Q.kl c) (Q.ke c) Q.n (Q.p2 i z) t)) 49 8 1
theorem LWI_1 {Q : QC} {S X : jS} {i c : Nat} {z : Int32} (h : Inq Q S) (hi : i < 16) (hz : z = 1 ∨ z = 2 ∨ z = 4) (hc : c < 3) (hx : LWI Q S i z X) : LWI Q S i z (lwS Q i z c X (tOf X 0)) ∧ mLe (lwS Q i z c X (tOf X 0)) (tOf (lwS Q i z c X (tOf X 0)) 0).2.2.1 Q.n = mLe Q.X (Q.T2 i z c).2.2.1 Q.n := by
  have hcc := h.1.2.2.1 c hc
  have hT2 := (X2_told h hi hz).1
  have hP2 := (X2_told h hi hz).2
  have ta := LWI_TA h hi hz hx
  have hTX : Told X Q.n Q.nr Q.nc Q.nk := Told_s (LWI_TS h hx) hT2
  have hn := hTX.1.2
  have hCX : CkH X Q.n := CkH_s ta.1 hn (congrFun ta.2.1 40) (congrFun ta.2.1 42) hP2.2.2.2
  have hok := mRk_ok (j := 0) (kl := Q.kl c) (ke := Q.ke c) hTX hCX (LWI_rises h hi hz hx) hcc.2.2.1 hcc.2.2.2 hx.2.2.2.2.2.1.2
  have ht : tOf (lwS Q i z c X (tOf X 0)) 0 = mRk X 0 (Q.kl c) (Q.ke c) Q.n (Q.p2 i z) (tOf X 0) := GT_of (S := sT X 0 _) (GT_s X 0 _) hok
  refine ⟨⟨TS_t hx.1 (TS_t (TS_T X 0 _) (TS_I _ (by decide))), hx.2.1, fun a h1 h2 => ?_, fun k hk => ?_, hx.2.2.2.2.1, ?_, fun a f h1 h2 => ?_⟩, ?_⟩
  · exact (sT_n (S := X) (j := 0) (by omega)).trans (hx.2.2.1 a h1 h2)
  · exact (congrFun (sT_o (S := X) (j := 0) (by decide)) k).trans (hx.2.2.2.1 k hk)
  · exact Grid_i (t := mRk X 0 (Q.kl c) (Q.ke c) Q.n (Q.p2 i z) (tOf X 0)) (GT_s X 0 _) hok
  · exact (pI_k (S := sT X 0 _) h2).trans (hx.2.2.2.2.2.2 a f h1 h2)
  · rw [ht, mLe_s (S' := lwS Q i z c X (tOf X 0)) (S := Q.X) (hx.2.1.trans h.2.2.2.1), mRk_s ta hn]
    refine mLe_c (Inq_X h).1 (Inq_X h).2 (fun e he hk => ?_) Q.n (Nat.le_refl _)
    exact ((mRk_ag hT2 hP2).2.1 e he (by show kd (Q.X2 i z) e = 6 ∨ kd (Q.X2 i z) e = 7 ∨ kd (Q.X2 i z) e = 8; rw [show kd (Q.X2 i z) e = kd Q.X e from kd_s (TZ_5 Q.X hi) (by omega)]; exact hk)).2
theorem T2_ok {Q : QC} {S : jS} {i c : Nat} {z : Int32} (h : Inq Q S) (hi : i < 16) (hz : z = 1 ∨ z = 2 ∨ z = 4) (hc : c < 3) : okT (Q.T2 i z c) := by
  have hcc := h.1.2.2.1 c hc
  have hT2 := (X2_told h hi hz).1
  have hn := hT2.1.2
  have h0 := LWI_0 (z := z) h hi
  have ta := LWI_TA h hi hz h0
  have hTX := Told_s (LWI_TS h h0) hT2
  have hCX : CkH _ Q.n := CkH_s ta.1 hn (congrFun ta.2.1 40) (congrFun ta.2.1 42) (X2_told h hi hz).2.2.2.2
  unfold QC.T2
  rw [← mRk_s ta hn]
  exact mRk_ok hTX hCX (LWI_rises h hi hz h0) hcc.2.2.1 hcc.2.2.2 ⟨fun x => by show (0 : Int) ≤ 0 ∧ (0 : Int) ≤ _; omega, fun x => by show (-20000000 : Int) ≤ 0 ∧ (0 : Int) ≤ 20000000; omega, fun x => by show (-20000000 : Int) ≤ 0 ∧ (0 : Int) ≤ 409595904; omega, fun x => by show (0 : Int) ≤ 0 ∧ (0 : Int) ≤ 400000; omega⟩
theorem vLW_r {Q : QC} {S : jS} {i : Nat} {z : Int32} (h : Inq Q S) (hi : i < 16) (hz : z = 1 ∨ z = 2 ∨ z = 4) : ∀ c, c ≤ 3 → -20000000 ≤ vLW Q i z c ∧ vLW Q i z c ≤ 409595904
  | 0, _ => by unfold vLW; omega
  | c + 1, hc => by
    have ih := vLW_r h hi hz c (by omega)
    have hr := mLe_r (S := Q.X) (T2_ok h hi hz (show c < 3 by omega)).2.2.1 Q.n
    unfold vLW
    omega
/-- the size is put back: the state may be asked again -/
theorem LWI_end {Q : QC} {S X : jS} {i : Nat} {z : Int32} (h : Inq Q S) (hi : i < 16) (hx : LWI Q S i z X) : Inq Q (pI X (i + 13) 5 (sI S (i + 13) 5)) := by
  obtain ⟨x1, x2, x3, x4, x5, x6, x7⟩ := hx
  have hn := h.1.1.1.2
  have ts : TS S (pI X (i + 13) 5 (sI S (i + 13) 5)) := by
    refine ⟨fun k f hk => ?_, x1.2⟩
    show up2 X.1 (i + 13) 5 (S.1 (i + 13) 5) k f = S.1 k f
    unfold up2
    by_cases hx : k = i + 13 ∧ f = 5
    · rw [if_pos hx, hx.1, hx.2]
    · rw [if_neg hx]
      exact (x1.1 k f hk).trans (if_neg hx)
  have hI : ∀ a f, 35 ≤ a → a ≠ 49 → sI (pI X (i + 13) 5 (sI S (i + 13) 5)) a f = sI S a f := fun a f h1 h2 => (pI_k (by omega)).trans (x7 a f h1 h2)
  have hg : ∀ j, 1 ≤ j → ∀ a, 5 * j + 50 ≤ a → sD (pI X (i + 13) 5 (sI S (i + 13) 5)) a = sD S a := fun j h1 a h2 => x3 a (by omega) (by omega)
  refine ⟨Inv_ts ts h.1 (fun j hj => ?_) (Or.inr (PT_s (TZ_of ts) h.1.1 ?_ ?_ ?_ ?_ (Inq_PT h))) ?_, TS_t h.2.1 ts, ?_, x2.trans h.2.2.2.1, fun j h1 h7 => ?_⟩
  · rcases Nat.eq_zero_or_pos j with rfl | hp
    · exact x6
    · exact Grid_c (fun a h1 _ => hg j hp a h1) (h.1.2.2.2.1 j hj)
  · exact congrFun x2 39
  · exact congrFun x2 40
  · exact congrFun x2 41
  · exact congrFun x2 42
  · rw [hI 43 3 (by decide) (by decide)]
    exact h.1.2.2.2.2.2.1.imp id (fun q => DT_s ts hn x5 (x3 45 (by decide) (by decide)) q)
  · rw [hI 38 5 (by decide) (by decide)]
    exact h.2.2.1
  · rw [hI _ _ (by omega) (by omega), tOf_c (S := S) (fun a q1 _ => hg j h1 a q1)]
    exact h.2.2.2.2 j h1 h7
section Q3
variable {l : Launch} {D : va_G} {ad : Nat → Nat} {tc : Nat → ClassId} {L : Nat} {xs : Nat → Int32} {S : jS} {E : List j_C} {sl x : Nat} {Q : QC}
set_option maxRecDepth 20000 in
theorem lp_lw {i : Nat} {z : Int32} (h0 : Inq Q S) (hi : i < 16) (hz : z = 1 ∨ z = 2 ∨ z = 4) (K : ∀ X, LWI Q S i z X → Rn l D ad tc L xs mX0_leastWith 4 107 92 [(5, .double (dv (vLW Q i z Q.nc))), (4, .int (sI S (i + 13) 5)), (3, .ref (i + 14))] [] (wd X E, sl) (some (.double (dv (vLW Q i z Q.nc)))) (wd (pI X (i + 13) 5 (sI S (i + 13) 5)) E, sl)) : ∀ m k : Nat, k + m = Q.nc → ∀ X, LWI Q S i z X → ∃ X', LWI Q S i z X' ∧ Rn l D ad tc L xs mX0_leastWith 4 107 43 [(7, .int (nI k)), (5, .double (dv (vLW Q i z k))), (4, .int (sI S (i + 13) 5)), (3, .ref (i + 14)), (0, .ref 36), (1, .int (nI i)), (2, .int z)] [] (wd X E, sl) (some (.double (dv (vLW Q i z Q.nc)))) (wd (pI X' (i + 13) 5 (sI S (i + 13) 5)) E, sl) := by
  intro m
  induction m with
  | zero =>
    intro k hk X h
    obtain ⟨n0, hn0⟩ : ∃ n0, n0 = Q.nc := ⟨_, rfl⟩
    have hk' : n0 = k := by omega
    rw [← hn0]
    subst hk'
    have hN1 : sI X 1 5 = nI n0 := by rw [hn0]; exact ((LWI_TS h0 h).1 1 5 (by decide)).trans (X2_told h0 hi hz).1.2.2.1.1
    refine ⟨X, h, ?_⟩
    refine rn_iload dX0_leastWith_43 rfl ?_
    refine rn_aload_n dX0_leastWith_45 rfl ?_
    refine rn_getfield dX0_leastWith_46 fo_X0_20 h_an rfl ?_
    refine rn_getfield dX0_leastWith_49 fo_X0_72 h_chip rfl ?_
    refine rn_topi hN1 ?_
    refine rn_icmp_ge (tgt := 92) dX0_leastWith_52 rfl (fun _ => ?_) (fun q1 => absurd (by exact Int32.le_refl _) q1)
    rw [hn0]
    exact rn_subg rfl (K _ h)
  | succ m ih =>
    intro k hk X h
    obtain ⟨n0, hn0⟩ : ∃ n0, n0 = Q.nc := ⟨_, rfl⟩
    have hN1 : sI X 1 5 = nI n0 := by rw [hn0]; exact ((LWI_TS h0 h).1 1 5 (by decide)).trans (X2_told h0 hi hz).1.2.2.1.1
    have hkn : k < n0 := by omega
    have hc3 := h0.1.1.2.2.1.2.2
    have hv := vLW_r h0 hi hz k (by omega)
    have hr := mLe_r (S := Q.X) (T2_ok h0 hi hz (show k < 3 by omega)).2.2.1 Q.n
    have hcc := h0.1.2.2.1 k (by omega)
    have h1 := LWI_1 h0 hi hz (show k < 3 by omega) h
    have hT2 := (X2_told h0 hi hz).1
    have ta := LWI_TA h0 hi hz h
    have hTX : Told X Q.n Q.nr Q.nc Q.nk := Told_s (LWI_TS h0 h) hT2
    have hCX : CkH X Q.n := CkH_s ta.1 hTX.1.2 (congrFun ta.2.1 40) (congrFun ta.2.1 42) (X2_told h0 hi hz).2.2.2.2
    have ts0 := LWI_TS h0 h
    have k1 := c_X8_reckon (l := l) (D := D) (ad := ad) (tc := tc) (L := L) (xs := xs) (E := E) (sl := sl) (S := X) (t := tOf X 0) (j := 0) (c := k) (kl := Q.kl k) (ke := Q.ke k) (p := Q.p2 i z) (by decide) (by omega) ((h.1.2.1 (k + 10) 0 (by omega)).trans hcc.1) ((h.1.2.1 (k + 10) 1 (by omega)).trans hcc.2.1) hcc.2.2.1 hcc.2.2.2 hTX hCX (LWI_rises h0 hi hz h) h.2.2.2.2.2.1.2
    rw [sT_id h.2.2.2.2.2.1.1] at k1
    have hTX' := Told_s (LWI_TS h0 h1.1) hT2
    have k2 := c_X8_leastOfEnds (l := l) (D := D) (ad := ad) (tc := tc) (L := L) (xs := xs) (E := E) (sl := sl) (S := lwS Q i z k X (tOf X 0)) (j := 0) (by decide) hTX' h1.1.2.2.2.2.2.1.1.2.2.1 h1.1.2.2.2.2.2.1.2.2.2.1
    rw [h1.2] at k2
    obtain ⟨X', h', ih⟩ := ih (k + 1) (by omega) _ h1.1
    refine ⟨X', h', ?_⟩
    refine rn_iload dX0_leastWith_43 rfl ?_
    refine rn_aload_n dX0_leastWith_45 rfl ?_
    refine rn_getfield dX0_leastWith_46 fo_X0_20 h_an rfl ?_
    refine rn_getfield dX0_leastWith_49 fo_X0_72 h_chip rfl ?_
    refine rn_topi hN1 ?_
    refine rn_icmp_ge (tgt := 92) dX0_leastWith_52 rfl (fun q1 => absurd q1 (by rw [Int32.le_iff_toInt_le, nI_toInt (by omega), nI_toInt (by omega)] at q1; omega)) (fun _ => ?_)
    refine rn_aload_n dX0_leastWith_55 rfl ?_
    refine rn_getfield dX0_leastWith_56 fo_X0_46 h_an rfl ?_
    refine rn_aload_n dX0_leastWith_59 rfl ?_
    refine rn_getfield dX0_leastWith_60 fo_X0_20 h_an rfl ?_
    refine rn_getfield dX0_leastWith_63 fo_X0_60 h_chip rfl ?_
    refine rn_iload dX0_leastWith_66 rfl ?_
    refine rn_aaload dX0_leastWith_68 h_corners rfl (vp_in_nI (by omega) (by decide)) (refs_at rfl (by omega) (by decide)) ?_
    refine rn_callV dX0_leastWith_69 cv_X0_66 k1 rfl (h_tim (j := 0) (by decide)) rfl rfl (by decide) (by decide) rfl (Nat.le_of_ble_eq_true rfl) ?_
    refine rn_dload dX0_leastWith_72 rfl ?_
    refine rn_aload_n dX0_leastWith_74 rfl ?_
    refine rn_getfield dX0_leastWith_75 fo_X0_46 h_an rfl ?_
    refine rn_callV dX0_leastWith_78 cv_X0_80 k2 rfl (h_tim (j := 0) (by decide)) rfl rfl (by decide) (by decide) rfl (Nat.le_of_ble_eq_true rfl) ?_
    refine rn_callSN dX0_leastWith_81 csn_X0_84 (c_X9_smaller (dB_of (by omega) (by omega)) (dB_of (by omega) (by omega))) rfl (by decide) (by decide) rfl (Nat.le_of_ble_eq_true rfl) ?_
    refine rn_dstore dX0_leastWith_84 (by decide) rfl ?_
    refine rn_iinc dX0_leastWith_86 rfl (nI_1 _) (by decide) rfl ?_
    refine rn_goto (tgt := 43) dX0_leastWith_89 rfl ?_
    exact rn_subg rfl ih
set_option maxRecDepth 20000 in
theorem lp_lwE {i : Nat} {z : Int32} {v : Int} {X : jS} {b : Int32} (hi : i < 16) : Rn l D ad tc L xs mX0_leastWith 4 107 92 [(5, .double (dv v)), (4, .int b), (3, .ref (i + 14))] [] (wd X E, sl) (some (.double (dv v))) (wd (pI X (i + 13) 5 b) E, sl) := by
  refine rn_aload_n dX0_leastWith_92 rfl ?_
  refine rn_iload dX0_leastWith_93 rfl ?_
  refine rn_pI (a := _ + 13) dX0_leastWith_95 fp_X0_105 (by omega) (cc_node (by omega)) (cc_nodeI (by omega) (by decide)) (by simp) ⟨rfl, rfl⟩ ⟨_, _, _, rfl, rfl⟩ ?_
  refine rn_dload dX0_leastWith_98 rfl ?_
  exact rn_ret dX0_leastWith_100 trivial rfl
set_option maxRecDepth 20000 in
theorem q_leastWith {i : Nat} {z : Int32} (h : Inq Q S) (hin : i < Q.n) (hz : z = 1 ∨ z = 2 ∨ z = 4): ∃ S', Inq Q S' ∧ Cn l D ad tc L xs mX0_leastWith 4 107 [.ref 36, .int (nI i), .int z] (wd S E, sl) (some (.double (dv (vLW Q i z Q.nc)))) (wd S' E, sl) := by
  have hn := h.1.1.1.2
  have hi : i < 16 := by omega
  have kp := c_X6_prepare (l := l) (D := D) (ad := ad) (tc := tc) (L := L) (xs := xs) (E := E) (sl := sl) h.1.1
  rw [sPaths_1 h.2.2.1] at kp
  have k4 := c_X4_reckon (l := l) (D := D) (ad := ad) (tc := tc) (L := L) (xs := xs) (E := E) (sl := sl) (x := 46) (S := pI S (i + 13) 5 z) (w := Q.w) (Or.inr rfl) (Told_pI5 hi hz h.1.1) h.1.2.1
  obtain ⟨X', h', k0⟩ := lp_lw (l := l) (D := D) (ad := ad) (tc := tc) (L := L) (xs := xs) (E := E) (sl := sl) (Q := Q) h hi hz (fun X _ => lp_lwE (i := i) (z := z) hi) Q.nc 0 (by omega) _ (LWI_0 (z := z) h hi)
  refine ⟨_, LWI_end h hi h', ?_⟩
  refine cn_of (lv0 := [(0, .ref 36), (1, .int (nI i)), (2, .int z)]) (by decide +kernel) rfl (fun _ => by simp [lg_sl, j_v, Value.category]) (fun _ => rfl) ?_
  refine rn_aload_n dX0_leastWith_0 rfl ?_
  refine rn_getfield dX0_leastWith_1 fo_X0_20 h_an rfl ?_
  refine rn_getfield dX0_leastWith_4 fo_X0_91 h_chip rfl ?_
  refine rn_iload_n dX0_leastWith_7 rfl ?_
  refine rn_aaload dX0_leastWith_8 h_nodes rfl (vp_in_nI (by omega) (by decide)) (refs_at rfl (by omega) (by decide)) ?_
  refine rn_astore_n dX0_leastWith_9 (by decide) rfl ?_
  refine rn_aload_n dX0_leastWith_10 rfl ?_
  refine rn_getfield dX0_leastWith_11 fo_X0_105 (h_node (by omega)) rfl ?_
  refine rn_istore dX0_leastWith_14 (by decide) rfl ?_
  refine rn_aload_n dX0_leastWith_16 rfl ?_
  refine rn_getfield dX0_leastWith_17 fo_X0_29 h_an rfl ?_
  refine rn_callV dX0_leastWith_20 cv_X0_56 kp rfl h_paths rfl rfl (by decide) (by decide) rfl (Nat.le_of_ble_eq_true rfl) ?_
  refine rn_aload_n dX0_leastWith_23 rfl ?_
  refine rn_iload_n dX0_leastWith_24 rfl ?_
  refine rn_pI (a := _ + 13) dX0_leastWith_25 fp_X0_105 (by omega) (cc_node (by omega)) (cc_nodeI (by omega) (by decide)) (by simp) ⟨rfl, rfl⟩ ⟨_, _, _, rfl, rfl⟩ ?_
  refine rn_aload_n dX0_leastWith_28 rfl ?_
  refine rn_getfield dX0_leastWith_29 fo_X0_40 h_an rfl ?_
  refine rn_callV dX0_leastWith_32 cv_X0_108 k4 rfl (h_del (Or.inr rfl)) rfl rfl (by decide) (by decide) rfl (Nat.le_of_ble_eq_true rfl) ?_
  refine rn_dcon (n := 0) (m := 409595904) dX0_leastWith_35 wd_44 (by decide +kernel) ?_
  refine rn_dstore dX0_leastWith_38 (by decide) rfl ?_
  refine rn_iconst (v := 0) dX0_leastWith_40 rfl ?_
  refine rn_istore dX0_leastWith_41 (by decide) rfl ?_
  exact rn_subg rfl k0
end Q3
