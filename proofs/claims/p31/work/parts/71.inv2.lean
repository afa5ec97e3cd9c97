/-! What all calls keep: Inv -/
/-- told alike, but for the sizes -/
def TZ (S S' : jS) : Prop := (∀ k f, k < 35 → ¬ (13 ≤ k ∧ k < 29 ∧ f = 5) → S'.1 k f = S.1 k f) ∧ (∀ k f, k < 13 → S'.2.2.1 k f = S.2.2.1 k f) ∧ (∀ k f, k < 35 → S'.2.2.2.1 k f = S.2.2.2.1 k f) ∧ S'.2.2.2.2 = S.2.2.2.2
theorem TZ_of {S S' : jS} (h : TS S S') : TZ S S' := ⟨fun k f q _ => h.1 k f q, h.2⟩
theorem TZ_t {S S' S2 : jS} (h : TZ S S') (h2 : TZ S' S2) : TZ S S2 := ⟨fun k f q z => (h2.1 k f q z).trans (h.1 k f q z), fun k f q => (h2.2.1 k f q).trans (h.2.1 k f q), fun k f q => (h2.2.2.1 k f q).trans (h.2.2.1 k f q), h2.2.2.2.trans h.2.2.2⟩
theorem TZ_s {S S' : jS} (h : TZ S S') : TZ S' S := ⟨fun k f q z => (h.1 k f q z).symm, fun k f q => (h.2.1 k f q).symm, fun k f q => (h.2.2.1 k f q).symm, h.2.2.2.symm⟩
theorem TZ_5 (S : jS) {i : Nat} {v : Int32} (h : i < 16) : TZ S (pI S (i + 13) 5 v) := ⟨fun k f _ z => by
  by_cases hk : k = i + 13
  · exact up2_f _ _ (fun hf => z ⟨by omega, by omega, hf⟩)
  · exact up2_k _ _ hk, fun _ _ _ => rfl, fun _ _ _ => rfl, rfl⟩
theorem kd_s {S S' : jS} (h : TZ S S') {i : Nat} (hi : i < 16) : kd S' i = kd S i := h.1 _ _ (by omega) (by omega)
theorem fe1_s {S S' : jS} (h : TZ S S') {i : Nat} (hi : i < 16) : fe1 S' i = fe1 S i := h.1 _ _ (by omega) (by omega)
theorem fe2_s {S S' : jS} (h : TZ S S') {i : Nat} (hi : i < 16) : fe2 S' i = fe2 S i := h.1 _ _ (by omega) (by omega)
theorem stB_s {S S' : jS} (h : TZ S S') {i : Nat} (hi : i < 16) : stB S' i = stB S i := by
  have hk := kd_s h hi
  unfold stB
  rw [show sI S' (i + 13) 0 = sI S (i + 13) 0 from hk]
theorem enB_s {S S' : jS} (h : TZ S S') {i : Nat} (hi : i < 16) : enB S' i = enB S i := by
  have hk := kd_s h hi
  unfold enB
  rw [show sI S' (i + 13) 0 = sI S (i + 13) 0 from hk]
theorem gaB_s {S S' : jS} (h : TZ S S') {i : Nat} (hi : i < 16) : gaB S' i = gaB S i := by
  have hk := kd_s h hi
  unfold gaB
  rw [show sI S' (i + 13) 0 = sI S (i + 13) 0 from hk]
theorem mWin_s {S S' : jS} (h : TZ S S') {s e : Int32} : ∀ k, k ≤ 6 → mWin S' s e k = mWin S s e k
  | 0, _ => rfl
  | k + 1, hk => by
    have f1 : mFits S' k s e = mFits S k s e := by
      unfold mFits
      rw [show sI S' (k + 29) 1 = sI S (k + 29) 1 from h.1 _ _ (by omega) (by omega), show sI S' (k + 29) 2 = sI S (k + 29) 2 from h.1 _ _ (by omega) (by omega)]
    have f2 : mWeight S' k = mWeight S k := by
      unfold mWeight
      rw [show sI S' (k + 29) 0 = sI S (k + 29) 0 from h.1 _ _ (by omega) (by omega), show sI S' (k + 29) 1 = sI S (k + 29) 1 from h.1 _ _ (by omega) (by omega), show sI S' (k + 29) 2 = sI S (k + 29) 2 from h.1 _ _ (by omega) (by omega)]
    show (if mFits S' k s e = true ∧ ¬ mWeight S' k < (mWin S' s e k).2 then (nI k, mWeight S' k) else mWin S' s e k) = (if mFits S k s e = true ∧ ¬ mWeight S k < (mWin S s e k).2 then (nI k, mWeight S k) else mWin S s e k)
    rw [f1, f2, mWin_s h k (by omega)]
theorem mSort_s {S S' : jS} (h : TZ S S') {s e nr : Nat} (hr : nr ≤ 6) : mSort S' s e nr = mSort S s e nr := by
  unfold mSort
  rw [mWin_s h nr hr]
  by_cases hw : (mWin S (nI s) (nI e) nr).1 = -1
  · rw [if_pos hw, if_pos hw]
  · rw [if_neg hw, if_neg hw]
    obtain ⟨i, hi, hw2⟩ := (mWin_r S (nI s) (nI e) nr).resolve_left hw
    rw [hw2, nI_clamp (by omega)]
    exact h.1 _ _ (by omega) (by omega)
theorem mChk_s {S S' : jS} (h : TZ S S') {R : Nat → Int32} {s e nr : Nat} (hr : nr ≤ 6) (hs : s < 16) (he : e < 16) (hv : ∀ i, i < 16 → sV S i < 4) : mChk S' R nr s e = mChk S R nr s e := by
  have v1 := hv s hs
  have v2 := hv e he
  unfold mChk mCome mGrp
  rw [mSort_s h hr, enB_s h he, fe1_s h he, show sV S' = sV S from h.2.2.2, show sI S' (sV S s + 6) 3 = sI S (sV S s + 6) 3 from h.1 _ _ (by omega) (by omega), show sI S' (sV S e + 6) 3 = sI S (sV S e + 6) 3 from h.1 _ _ (by omega) (by omega)]
theorem mCB_s {S S' : jS} (h : TZ S S') {R : Nat → Int32} {e nr : Nat} (hr : nr ≤ 6) (he : e < 16) (hv : ∀ i, i < 16 → sV S i < 4) : ∀ m, m ≤ 16 → mCB S' R nr e m = mCB S R nr e m
  | 0, _ => rfl
  | m + 1, hm => by
    unfold mCB
    rw [mChk_s h hr (by omega) he hv, mCB_s h hr he hv m (by omega)]
theorem RF_s {S S' : jS} (h : TZ S S') {n m : Nat} {R : Nat → Int32} (hm : m ≤ 16) (hR : RF S n R m) : RF S' n R m := by
  intro i hi
  rw [hR i hi]
  unfold mR
  rw [stB_s h (by omega), gaB_s h (by omega), fe1_s h (by omega), fe2_s h (by omega)]
/-- the paths' rows are those of what is told -/
def PT (S : jS) (n nr : Nat) : Prop := RF S n (sA S 39) n ∧ CB n (sA S 39) (sA S 41) n ∧ (∀ e, e < n → sA S 40 e = mCB S (sA S 39) nr e n) ∧ CkH S n
theorem CkH_s {S S' : jS} (h : TZ S S') {n : Nat} (hn : n ≤ 16) (h40 : sA S' 40 = sA S 40) (h42 : sA S' 42 = sA S 42) (hC : CkH S n) : CkH S' n := by
  intro s e hs he hb
  rw [h40] at hb
  rw [h42, fe1_s h (by omega)]
  exact hC s e hs he hb
theorem PT_s {S S' : jS} (h : TZ S S') {n nr nc nk : Nat} (hT : Told S n nr nc nk) (h39 : sA S' 39 = sA S 39) (h40 : sA S' 40 = sA S 40) (h41 : sA S' 41 = sA S 41) (h42 : sA S' 42 = sA S 42) (hp : PT S n nr) : PT S' n nr := by
  have hn := hT.1.2
  unfold PT
  rw [h39, h40, h41]
  exact ⟨RF_s h hn hp.1, hp.2.1, fun e he => by rw [mCB_s h hT.2.1.2 (by omega) hT.2.2.2.2.1 n hn]; exact hp.2.2.1 e he, CkH_s h hn h40 h42 hp.2.2.2⟩
theorem PT_paths {S : jS} {n nr nc nk : Nat} (hT : Told S n nr nc nk) (h : sI S 38 5 = 0 ∨ PT S n nr) : PT (sPaths S n nr) n nr := by
  have hn := hT.1.2
  unfold sPaths
  by_cases h0 : sI S 38 5 = 0
  · rw [if_pos h0]
    have hc := sPrep_c S n n
    have hP := sPrep_RF hT n (Nat.le_refl n)
    have hB := sPrep_CB hT n (Nat.le_refl n)
    have hCk := CkH_chks (X := sPrep S n n) hT hc.1 hc.2 (v := 1)
    have t1 : TS S (sPrep S n n) := TS_c hc.1 hc.2
    have t2 : TS (sPrep S n n) (pI (sChks (sPrep S n n) n nr n) 38 5 1) := TS_t (TS_c (sChks_c _ _ _ _).1 (sChks_c _ _ _ _).2) (TS_I _ (by decide))
    have e39 : sA (pI (sChks (sPrep S n n) n nr n) 38 5 1) 39 = (sPrep S n n).2.1 39 := sChks_39 _ _ _ _
    have e41 : sA (pI (sChks (sPrep S n n) n nr n) 38 5 1) 41 = (sPrep S n n).2.1 41 := sChks_41 _ _ _ _
    have hT1 := Told_s t1 hT
    refine ⟨?_, ?_, ?_, hCk⟩
    · rw [e39]
      exact RF_s (TZ_of (TS_t t1 t2)) hn hP
    · rw [e39, e41]
      exact hB
    · intro e he
      rw [e39, mCB_s (TZ_of t2) hT1.2.1.2 (by omega) hT1.2.2.2.2.1 n hn]
      show (sChks (sPrep S n n) n nr n).2.1 40 e = _
      rw [sChks_40, if_pos he]
  · rw [if_neg h0]
    exact h.resolve_left h0
theorem sPaths_f (S : jS) (n nr : Nat) : sI (sPaths S n nr) 38 5 ≠ 0 := by
  unfold sPaths
  by_cases h0 : sI S 38 5 = 0
  · rw [if_pos h0]
    show up2 (sChks (sPrep S n n) n nr n).1 38 5 1 38 5 ≠ 0
    rw [up2_eq]
    decide
  · rw [if_neg h0]
    exact h0
theorem sPaths_1 {S : jS} {n nr : Nat} (h : ¬ sI S 38 5 = 0) : sPaths S n nr = S := if_neg h
theorem sDelays_1 {S : jS} {w : Nat → Nat} {n x : Nat} (h : ¬ sI S x 3 = 0) : sDelays S w n x = S := if_neg h
theorem sDelays_f (S : jS) (w : Nat → Nat) (n : Nat) : sI (sDelays S w n 43) 43 3 ≠ 0 := by
  unfold sDelays
  by_cases h0 : sI S 43 3 = 0
  · rw [if_pos h0]
    show up2 (sDel S w n 43).1 43 3 1 43 3 ≠ 0
    rw [up2_eq]
    decide
  · rw [if_neg h0]
    exact h0
theorem sDelays_A (S : jS) (w : Nat → Nat) (n x : Nat) : (sDelays S w n x).2.1 = S.2.1 := by
  unfold sDelays
  split <;> rfl
theorem sDelays_p (S : jS) (w : Nat → Nat) (n : Nat) : sI (sDelays S w n 43) 38 5 = sI S 38 5 := by
  unfold sDelays
  split
  · show up2 (sDel S w n 43).1 43 3 1 38 5 = _
    exact up2_k _ _ (by decide)
  · rfl
theorem xT_1 {j : Nat} (h : 1 ≤ j) : xT j = 43 := if_neg (by omega)
/-- loads and rises are those of what is told -/
def DT (S : jS) (n : Nat) (w : Nat → Nat) (p : Nat → Int) : Prop := ∀ i, i < n → sF S 44 i = fv (qLd S w n i) ∧ sD S 45 i = dv (32 * p i)
def Inv (S : jS) (n nr nc nk : Nat) (w kl ke : Nat → Nat) (p : Nat → Int) : Prop :=
  Told S n nr nc nk ∧ Tw S w ∧ (∀ c, c < 3 → sD S (c + 10) 0 = dv (512 * (kl c : Nat)) ∧ sD S (c + 10) 1 = dv (512 * (ke c : Nat)) ∧ kl c ≤ 16 ∧ ke c ≤ kl c) ∧ (∀ j, j < 7 → Grid S j) ∧ (sI S 38 5 = 0 ∨ PT S n nr) ∧ (sI S 43 3 = 0 ∨ DT S n w p) ∧ ∀ i, i < n → rho S i (qLd S w n i) = p i
theorem Told_z {S : jS} {n nr nc nk : Nat} (hT : Told S n nr nc nk) : ∀ i, i < 16 → sI S (i + 13) 5 = 1 ∨ sI S (i + 13) 5 = 2 ∨ sI S (i + 13) 5 = 4 := fun i hi => (hT.2.2.2.2.2.2.1 i hi).1
theorem p_r {S : jS} {n nr nc nk : Nat} {w : Nat → Nat} {p : Nat → Int} (hT : Told S n nr nc nk) (hw : Tw S w) (hp : ∀ i, i < n → rho S i (qLd S w n i) = p i) : ∀ i, i < n → 0 ≤ p i ∧ p i ≤ 17000 := by
  intro i hi
  have hn := hT.1.2
  have hq := qLd_r (Told_z hT) (fun i hi => (hw i hi).1) n hn i (by omega)
  rw [← hp i hi]
  exact rho_r (by omega) (Told_z hT i (by omega))
theorem rises_of {S : jS} {n nr nc nk j : Nat} {w kl ke : Nat → Nat} {p : Nat → Int} (h : Inv S n nr nc nk w kl ke p) (hd : DT S n w p) (hj : 1 ≤ j) : rises S j n p := by
  intro i hi
  rw [xT_1 hj]
  exact ⟨(hd i hi).2, p_r h.1 h.2.1 h.2.2.2.2.2.2 i hi⟩
theorem own_s {S S' : jS} (h : TS S S') {k : Nat} (hk : k < 16) : own S' k = own S k := by
  unfold own
  rw [kd_s (TZ_of h) hk, show sI S' (k + 13) 5 = sI S (k + 13) 5 from h.1 _ _ (by omega)]
theorem qLd_s {S S' : jS} (h : TS S S') {w : Nat → Nat} : ∀ k, k ≤ 16 → qLd S' w k = qLd S w k
  | 0, _ => funext fun _ => rfl
  | k + 1, hk => by
    funext i
    unfold qLd
    rw [qLd_s h k (by omega), own_s h (by omega), fe1_s (TZ_of h) (by omega), fe2_s (TZ_of h) (by omega)]
theorem rho_s {S S' : jS} (h : TS S S') {i q : Nat} (hi : i < 16) : rho S' i q = rho S i q := by
  unfold rho
  rw [kd_s (TZ_of h) hi, gaB_s (TZ_of h) hi, show sI S' (i + 13) 5 = sI S (i + 13) 5 from h.1 _ _ (by omega)]
theorem DT_delays {S : jS} {n nr nc nk : Nat} {w : Nat → Nat} {p : Nat → Int} (hT : Told S n nr nc nk) (hp : ∀ i, i < n → rho S i (qLd S w n i) = p i) (h : sI S 43 3 = 0 ∨ DT S n w p) : DT (sDelays S w n 43) n w p := by
  have hn := hT.1.2
  have hts := TS_delays S w n (x := 43) (Or.inl rfl)
  intro i hi
  rw [qLd_s hts n hn]
  unfold sDelays
  by_cases h0 : sI S 43 3 = 0
  · rw [if_pos h0]
    refine ⟨?_, ?_⟩
    · show LF n (sF S 44) (qLd S w n) i = _
      exact LF_at hi
    · show RD S (qLd S w n) (sD S 45) n i = _
      rw [← hp i hi]
      exact if_pos hi
  · rw [if_neg h0]
    exact h.resolve_left h0 i hi
theorem DT_s {S S' : jS} (h : TS S S') {n : Nat} {w : Nat → Nat} {p : Nat → Int} (hn : n ≤ 16) (h1 : sF S' 44 = sF S 44) (h2 : sD S' 45 = sD S 45) (hd : DT S n w p) : DT S' n w p := by
  intro i hi
  rw [qLd_s h n hn, h1, h2]
  exact hd i hi
/-- paths and delays are fresh -/
def Inv2 (S : jS) (n nr nc nk : Nat) (w kl ke : Nat → Nat) (p : Nat → Int) : Prop := Inv S n nr nc nk w kl ke p ∧ ¬ sI S 38 5 = 0 ∧ ¬ sI S 43 3 = 0 ∧ PT S n nr ∧ DT S n w p
theorem Inv_ts {S S' : jS} {n nr nc nk : Nat} {w kl ke : Nat → Nat} {p : Nat → Int} (h : TS S S') (hI : Inv S n nr nc nk w kl ke p) (hg : ∀ j, j < 7 → Grid S' j) (h1 : sI S' 38 5 = 0 ∨ PT S' n nr) (h2 : sI S' 43 3 = 0 ∨ DT S' n w p) : Inv S' n nr nc nk w kl ke p := by
  obtain ⟨a, b, c, d, e, f, g⟩ := hI
  have hn := a.1.2
  exact ⟨Told_s h a, Tw_s h b, fun k hk => by
    have := c k hk
    exact ⟨(h.2.1 _ _ (by omega)).trans this.1, (h.2.1 _ _ (by omega)).trans this.2.1, this.2.2⟩, hg, h1, h2, fun i hi => by rw [rho_s h (by omega), qLd_s h n hn]; exact g i hi⟩
theorem Inv_pd {S : jS} {n nr nc nk : Nat} {w kl ke : Nat → Nat} {p : Nat → Int} (hI : Inv S n nr nc nk w kl ke p) : Inv2 (sPD S n nr w) n nr nc nk w kl ke p := by
  have hI' := hI
  obtain ⟨a, b, c, d, e, f, g⟩ := hI
  have hn := a.1.2
  have t1 := TS_paths S n nr
  have t2 := TS_delays (sPaths S n nr) w n (x := 43) (Or.inl rfl)
  have f1 : sI (sPaths S n nr) 43 3 = sI S 43 3 := by
    unfold sPaths
    split
    · show up2 (sChks (sPrep S n n) n nr n).1 38 5 1 43 3 = _
      rw [up2_k _ _ (by decide), (sChks_c _ _ _ _).1, (sPrep_c _ _ _).1]
    · rfl
  have f2 : sF (sPaths S n nr) 44 = sF S 44 ∧ sD (sPaths S n nr) 45 = sD S 45 := by
    refine ⟨?_, sPaths_D _ _ _ _⟩
    unfold sPaths
    split
    · show (sChks (sPrep S n n) n nr n).2.2.2.1 44 = _
      rw [(sChks_c _ _ _ _).2, (sPrep_c _ _ _).2]
    · rfl
  have hA : (sPD S n nr w).2.1 = (sPaths S n nr).2.1 := sDelays_A _ _ _ _
  have hP : PT (sPD S n nr w) n nr := PT_s (TZ_of t2) (Told_s t1 a) (congrFun hA 39) (congrFun hA 40) (congrFun hA 41) (congrFun hA 42) (PT_paths a e)
  have hD : DT (sPD S n nr w) n w p := by
    refine DT_delays (Told_s t1 a) (fun i hi => by rw [rho_s t1 (by omega), qLd_s t1 n hn]; exact g i hi) ?_
    rw [f1]
    exact f.imp id (fun q => DT_s t1 hn f2.1 f2.2 q)
  have h1 : ¬ sI (sPD S n nr w) 38 5 = 0 := by
    show ¬ sI (sDelays (sPaths S n nr) w n 43) 38 5 = 0
    rw [sDelays_p]
    exact sPaths_f S n nr
  exact ⟨Inv_ts (TS_pd S n nr w) hI' (fun j hj => sPD_G (d j hj)) (Or.inr hP) (Or.inr hD), h1, sDelays_f _ _ _, hP, hD⟩
theorem sPD_1 {S : jS} {n nr : Nat} {w : Nat → Nat} (h1 : ¬ sI S 38 5 = 0) (h2 : ¬ sI S 43 3 = 0) : sPD S n nr w = S := by
  unfold sPD
  rw [sPaths_1 h1, sDelays_1 h2]
theorem pI_k {S : jS} {k f a b : Nat} {v : Int32} (h : a ≠ k) : sI (pI S k f v) a b = sI S a b := up2_k _ _ h
theorem Inv_tm {X : jS} {n nr nc nk j c : Nat} {w kl ke : Nat → Nat} {p : Nat → Int} (h : Inv2 X n nr nc nk w kl ke p) (hj : j < 7) (hj1 : 1 ≤ j) (hc : c < 3) : Inv2 (sTm X n j (kl c) (ke c) p) n nr nc nk w kl ke p := by
  obtain ⟨hI, h1, h2, hP, hD⟩ := h
  by_cases hf : sI X (5 * j + 49) 8 = 0
  · have hts := TS_tm X n j (kl c) (ke c) p
    have hn := hI.1.1.2
    rw [sTm_0 hf] at hts ⊢
    have hok := mRk_ok (j := j) (kl := kl c) (ke := ke c) hI.1 hP.2.2.2 (rises_of hI hD hj1) (hI.2.2.1 c hc).2.2.1 (hI.2.2.1 c hc).2.2.2 (hI.2.2.2.1 j hj).2
    have hP' : PT (pI (sT X j (mRk X j (kl c) (ke c) n p (tOf X j))) (5 * j + 49) 8 1) n nr := PT_s (TZ_of hts) hI.1 rfl rfl rfl rfl hP
    have hD' : DT (pI (sT X j (mRk X j (kl c) (ke c) n p (tOf X j))) (5 * j + 49) 8 1) n w p := DT_s hts hn rfl (sT_o (by omega)) hD
    refine ⟨Inv_ts hts hI (fun k hk => ?_) (Or.inr hP') (Or.inr hD'), ?_, ?_, hP', hD'⟩
    · by_cases hkj : k = j
      · subst hkj
        exact Grid_i (t := mRk X k (kl c) (ke c) n p (tOf X k)) (GT_s X k _) hok
      · exact Grid_c (fun a q1 q2 => sT_n (by omega)) (hI.2.2.2.1 k hk)
    · rw [pI_k (by omega)]
      exact h1
    · rw [pI_k (by omega)]
      exact h2
  · rw [sTm_1 hf]
    exact ⟨hI, h1, h2, hP, hD⟩
