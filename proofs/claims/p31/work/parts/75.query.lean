/-! The calls that ask: what they keep, and what the timings answer -/
/-- the constants of a run of asking: the state before it, and what is told there -/
def QC : Type := jS × (Nat × Nat × Nat × Nat) × ((Nat → Nat) × (Nat → Nat) × (Nat → Nat)) × (Nat → Int)
def QC.S (Q : QC) : jS := Q.1
def QC.n (Q : QC) : Nat := Q.2.1.1
def QC.nr (Q : QC) : Nat := Q.2.1.2.1
def QC.nc (Q : QC) : Nat := Q.2.1.2.2.1
def QC.nk (Q : QC) : Nat := Q.2.1.2.2.2
def QC.w (Q : QC) : Nat → Nat := Q.2.2.1.1
def QC.kl (Q : QC) : Nat → Nat := Q.2.2.1.2.1
def QC.ke (Q : QC) : Nat → Nat := Q.2.2.1.2.2
def QC.p (Q : QC) : Nat → Int := Q.2.2.2
def QC.X (Q : QC) : jS := sPD Q.S Q.n Q.nr Q.w
def QC.T (Q : QC) (j : Nat) : TT := mRk Q.X j (Q.kl ((j - 1) / 2)) (Q.ke ((j - 1) / 2)) Q.n Q.p (fun _ => 0, fun _ => 0, fun _ => 0, fun _ => 0)
/-- what a call that asks may count on: Inv, told alike, the rows of the paths, and each fresh timing says what T says -/
def QC.EK (Q : QC) (x : Nat) : Prop := kd Q.X x = 6 ∨ kd Q.X x = 7 ∨ kd Q.X x = 8
def QC.A (Q : QC) (t : TT) (j : Nat) : Prop := agT Q.X Q.n Q.n Q.EK t (Q.T j)
def Inq (Q : QC) (S : jS) : Prop := Inv S Q.n Q.nr Q.nc Q.nk Q.w Q.kl Q.ke Q.p ∧ TS Q.S S ∧ ¬ sI S 38 5 = 0 ∧ S.2.1 = Q.X.2.1 ∧ ∀ j, 1 ≤ j → j < 7 → sI S (5 * j + 49) 8 = 0 ∨ Q.A (tOf S j) j
theorem Inq_TS {Q : QC} {S : jS} (h : Inq Q S) : TS Q.X S := TS_t (TS_s (TS_pd Q.S Q.n Q.nr Q.w)) h.2.1
theorem Inq_TA {Q : QC} {S : jS} (h : Inq Q S) : TA Q.X S := by
  have t1 := Inq_TS h
  refine ⟨TZ_of t1, h.2.2.2.1, ?_⟩
  have := h.1.1.2.2.2.2.1
  rw [show sV S = sV Q.X from t1.2.2.2] at this
  exact this
theorem Inq_PT {Q : QC} {S : jS} (h : Inq Q S) : PT S Q.n Q.nr := h.1.2.2.2.2.1.resolve_left h.2.2.1
theorem Inq_X {Q : QC} {S : jS} (h : Inq Q S) : Told Q.X Q.n Q.nr Q.nc Q.nk ∧ PT Q.X Q.n Q.nr := by
  have ts := TS_s (Inq_TS h)
  refine ⟨Told_s ts h.1.1, PT_s (TZ_of ts) h.1.1 ?_ ?_ ?_ ?_ (Inq_PT h)⟩
  · exact (congrFun h.2.2.2.1 39).symm
  · exact (congrFun h.2.2.2.1 40).symm
  · exact (congrFun h.2.2.2.1 41).symm
  · exact (congrFun h.2.2.2.1 42).symm
theorem tOf_c {S S' : jS} {j : Nat} (h : ∀ a, 5 * j + 50 ≤ a → a ≤ 5 * j + 53 → sD S' a = sD S a) : tOf S' j = tOf S j := by
  unfold tOf
  rw [h _ (by omega) (by omega), h _ (by omega) (by omega), h _ (by omega) (by omega), h _ (by omega) (by omega)]
theorem sDel_1 {S : jS} {w : Nat → Nat} {n a f : Nat} (h : a ≠ 43) : sI (sDelays S w n 43) a f = sI S a f := by
  unfold sDelays
  split
  · show up2 (sDel S w n 43).1 43 3 1 a f = _
    exact up2_k _ _ h
  · rfl
/-- the paths are fresh: preparing both is preparing the delays -/
theorem sPD_d {S : jS} {n nr : Nat} {w : Nat → Nat} (h : ¬ sI S 38 5 = 0) : sPD S n nr w = sDelays S w n 43 := by
  unfold sPD
  rw [sPaths_1 h]
theorem Inq_d {Q : QC} {S : jS} (h : Inq Q S) : Inq Q (sDelays S Q.w Q.n 43) ∧ Inv2 (sDelays S Q.w Q.n 43) Q.n Q.nr Q.nc Q.nk Q.w Q.kl Q.ke Q.p := by
  have h2 := Inv_pd h.1
  rw [sPD_d h.2.2.1] at h2
  refine ⟨⟨h2.1, TS_t h.2.1 (TS_delays S Q.w Q.n (Or.inl rfl)), h2.2.1, (sDelays_A _ _ _ _).trans h.2.2.2.1, fun j h1 h7 => ?_⟩, h2⟩
  rw [sDel_1 (by omega)]
  refine (h.2.2.2.2 j h1 h7).imp id (fun z => ?_)
  have ht : tOf (sDelays S Q.w Q.n 43) j = tOf S j := tOf_c (fun a q1 _ => by
    have := sPD_D (S := S) (n := Q.n) (nr := Q.nr) (w := Q.w) (show 49 ≤ a by omega)
    rw [sPD_d h.2.2.1] at this
    exact this)
  rw [ht]
  exact z
theorem jOf_c {c : Nat} {b : Bool} : (jOf c b - 1) / 2 = c := by unfold jOf; split <;> omega
theorem sTm_o {X : jS} {n j kl ke k : Nat} {p : Nat → Int} (h : k ≠ j) : sI (sTm X n j kl ke p) (5 * k + 49) 8 = sI X (5 * k + 49) 8 ∧ tOf (sTm X n j kl ke p) k = tOf X k := by
  by_cases hf : sI X (5 * j + 49) 8 = 0
  · rw [sTm_0 hf]
    exact ⟨pI_k (by omega), tOf_c (fun a q1 q2 => sT_n (by omega))⟩
  · rw [sTm_1 hf]
    exact ⟨rfl, rfl⟩
theorem sTm_A {X : jS} {n j kl ke : Nat} {p : Nat → Int} : (sTm X n j kl ke p).2.1 = X.2.1 := by
  unfold sTm
  split <;> rfl
/-- a timing that is asked for is fresh, and says what T says -/
theorem Inq_tm {Q : QC} {S : jS} {c : Nat} {b : Bool} (h : Inq Q S) (hc : c < 3) : Inq Q (sTm (sPD S Q.n Q.nr Q.w) Q.n (jOf c b) (Q.kl c) (Q.ke c) Q.p) ∧ Q.A (tOf (sTm (sPD S Q.n Q.nr Q.w) Q.n (jOf c b) (Q.kl c) (Q.ke c) Q.p) (jOf c b)) (jOf c b) := by
  rw [sPD_d h.2.2.1]
  have hd := Inq_d h
  generalize sDelays S Q.w Q.n 43 = X at hd
  have hX := hd.1
  have h2 := hd.2
  have hj := jOf_l (b := b) hc
  have hj1 := jOf_1 (c := c) (b := b)
  have i2 := Inv_tm (c := c) h2 hj hj1 hc
  have hxx := Inq_X hX
  have hn := hxx.1.1.2
  have hag : Q.A (tOf (sTm X Q.n (jOf c b) (Q.kl c) (Q.ke c) Q.p) (jOf c b)) (jOf c b) := by
    by_cases hf : sI X (5 * jOf c b + 49) 8 = 0
    · have hok := mRk_ok (j := jOf c b) (kl := Q.kl c) (ke := Q.ke c) hX.1.1 h2.2.2.2.1.2.2.2 (rises_of hX.1 h2.2.2.2.2 hj1) (hX.1.2.2.1 c hc).2.2.1 (hX.1.2.2.1 c hc).2.2.2 (hX.1.2.2.2.1 _ hj).2
      rw [sTm_0 hf, show tOf (pI (sT X (jOf c b) (mRk X (jOf c b) (Q.kl c) (Q.ke c) Q.n Q.p (tOf X (jOf c b)))) (5 * jOf c b + 49) 8 1) (jOf c b) = mRk X (jOf c b) (Q.kl c) (Q.ke c) Q.n Q.p (tOf X (jOf c b)) from GT_of (S := sT X (jOf c b) _) (GT_s X _ _) hok, mRk_s (Inq_TA hX) hn]
      unfold QC.A QC.T
      rw [jOf_c]
      exact mRk_ag hxx.1 hxx.2
    · rw [sTm_1 hf]
      exact (hX.2.2.2.2 _ hj1 hj).resolve_left hf
  refine ⟨⟨i2.1, TS_t hX.2.1 (TS_tm _ _ _ _ _ _), i2.2.1, sTm_A.trans hX.2.2.2.1, fun k k1 k7 => ?_⟩, hag⟩
  by_cases hk : k = jOf c b
  · subst hk
    exact Or.inr hag
  · have ho := sTm_o (X := X) (n := Q.n) (kl := Q.kl c) (ke := Q.ke c) (p := Q.p) hk
    rw [ho.1, ho.2]
    exact hX.2.2.2.2 k k1 k7
section Q1
variable {l : Launch} {D : va_G} {ad : Nat → Nat} {tc : Nat → ClassId} {L : Nat} {xs : Nat → Int32} {S : jS} {E : List j_C} {sl x : Nat} {Q : QC}
theorem q_timing {c : Nat} {b : Bool} (h : Inq Q S) (hc : c < 3) : ∃ S', Inq Q S' ∧ Q.A (tOf S' (jOf c b)) (jOf c b) ∧ Cn l D ad tc L xs mX0_timing 4 107 [.ref 36, .int (nI c), .int (bI b)] (wd S E, sl) (some (.ref (5 * jOf c b + 50))) (wd S' E, sl) := by
  have ht := Inq_tm (b := b) h hc
  have h2 := Inv_pd h.1
  have hc' := h.1.2.2.1 c hc
  exact ⟨_, ht.1, ht.2, c_X0_timing h.1.1 h.1.2.1 hc hc'.1 hc'.2.1 hc'.2.2.1 hc'.2.2.2 h2.2.2.2.1.2.2.2 (rises_of h2.1 h2.2.2.2.2 jOf_1) (h.1.2.2.2.1 _ (jOf_l hc))⟩
theorem q_delays (h : Inq Q S) : ∃ S', Inq Q S' ∧ DT S' Q.n Q.w Q.p ∧ Cn l D ad tc L xs mX0_delays 4 88 [.ref 36] (wd S E, sl) (some (.ref 44)) (wd S' E, sl) := by
  have hd := Inq_d h
  exact ⟨_, hd.1, hd.2.2.2.2.2, c_X0_delays h.1.1 h.1.2.1⟩
theorem q_paths (h : Inq Q S) : Cn l D ad tc L xs mX0_paths 4 96 [.ref 36] (wd S E, sl) (some (.ref 39)) (wd S E, sl) := by
  have hp := c_X0_paths (l := l) (D := D) (ad := ad) (tc := tc) (L := L) (xs := xs) (E := E) (sl := sl) h.1.1
  rw [sPaths_1 h.2.2.1] at hp
  exact hp
end Q1
