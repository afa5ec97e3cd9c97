/-! How many pairs are checked; the least of all; what a false exception for all leaves -/
/-- who reaches anything is a start -/
theorem reach_st {S : jS} {n nr nc nk : Nat} (hT : Told S n nr nc nk) (hR : RF S n (sA S 39) n) : ∀ k i, i < k → i < n → ∀ s, s < 16 → bitW (sA S 39 i) s = true → s < n ∧ stB S s = true
  | 0, _, h, _ => absurd h (Nat.not_lt_zero _)
  | k + 1, i, h, hi => by
    intro s hs hb
    have hn := hT.1.2
    rcases (RF_bit hR hs hn hi (by omega)).mp hb with ⟨h1, h2⟩ | ⟨h0, hg, a, ha, h1, hw⟩
    · subst h2
      exact ⟨hi, h1⟩
    · have hfe := fe_told hT hi hg
      have lt : ∀ v, fB' v i → v = nI a → a < i := by
        intro v hv hva
        rcases hv with h3 | ⟨b, hb1, hb2⟩
        · exact absurd (hva.symm.trans h3) (nI_ne1 (by omega))
        · have := nI_inj16 (by omega) (by omega) (hva.symm.trans hb2)
          omega
      have hai : a < i := h1.elim (lt _ hfe.1) (lt _ hfe.2)
      exact reach_st hT hR k a (by omega) (by omega) s hs hw
theorem ck_bit {S : jS} {n nr nc nk s e : Nat} (hT : Told S n nr nc nk) (hP : PT S n nr) (he : e < n) (hs : s < 16) : bitR (sA S 40) s e = (decide (s < n) && mChk S (sA S 39) nr s e) := by
  rw [bitR_W, hP.2.2.1 e he, mCB_bit hs n hT.1.2]
theorem mChk_come {S : jS} {R : Nat → Int32} {nr s e : Nat} (h : mChk S R nr s e = true) : enB S e = true ∧ fe1 S e ≠ -1 ∧ bitR R s (fe1 S e).toNatClampNeg = true := by
  unfold mChk mCome at h
  simp only [Bool.and_eq_true, decide_eq_true_eq] at h
  exact ⟨decide_eq_true h.1.1.1.1, h.1.1.1.2, h.1.1.2⟩
/-- a checked pair: a start, an end, and a way -/
theorem ck_pair {S : jS} {n nr nc nk s e : Nat} (hT : Told S n nr nc nk) (hP : PT S n nr) (he : e < n) (hs : s < 16) (h : bitR (sA S 40) s e = true) : s < n ∧ stB S s = true ∧ enB S e = true ∧ ∃ a, a < n ∧ fe1 S e = nI a ∧ bitW (sA S 39 a) s = true := by
  rw [ck_bit hT hP he hs] at h
  simp only [Bool.and_eq_true, decide_eq_true_eq] at h
  obtain ⟨h1, h2⟩ := h
  obtain ⟨h3, h4, h5⟩ := mChk_come h2
  obtain ⟨a, ha, hfa⟩ := (hT.2.2.2.2.2.1 e he).2.1.resolve_left h4
  have hn := hT.1.2
  rw [hfa, nI_clamp (by omega)] at h5
  exact ⟨h1, (reach_st hT hP.1 (a + 1) a (by omega) ha s hs h5).2, h3, a, ha, hfa, h5⟩
theorem mCB_e {S : jS} {R : Nat → Int32} {nr e : Nat} (h : ∀ s, mChk S R nr s e = false) : ∀ m, mCB S R nr e m = 0
  | 0 => rfl
  | m + 1 => by
    unfold mCB
    rw [if_neg (by rw [h m]; decide)]
    exact mCB_e h m
theorem ck_end {S : jS} {n nr nc nk e : Nat} (hP : PT S n nr) (he : e < n) (h : sA S 40 e ≠ 0) : enB S e = true := by
  cases hk : enB S e with
  | true => rfl
  | false =>
    refine absurd ?_ h
    rw [hP.2.2.1 e he]
    refine mCB_e (fun s => ?_) n
    cases hc : mChk S (sA S 39) nr s e with
    | false => rfl
    | true =>
      rw [(mChk_come hc).1] at hk
      exact absurd hk (by decide)
def ckS (S : jS) (e : Nat) : Nat → Nat
  | 0 => 0
  | s + 1 => ckS S e s + (if bitR (sA S 40) s e = true then 1 else 0)
def ckE (S : jS) (n : Nat) : Nat → Nat
  | 0 => 0
  | e + 1 => ckE S n e + ckS S e n
def ckC (S : jS) (R : Nat → Int32) (nr e : Nat) : Nat → Nat
  | 0 => 0
  | s + 1 => ckC S R nr e s + (if mChk S R nr s e = true then 1 else 0)
theorem bcs_step : ∀ m, m < 11 → ∀ x, x < 2 ^ m → mBc (nI x ||| (1 <<< (nI m &&& 31))) = mBc (nI x) + 1 ∧ nI x ||| (1 <<< (nI m &&& 31)) = nI (x + 2 ^ m) := by decide +kernel
theorem mCB_cnt {S : jS} {R : Nat → Int32} {nr e : Nat} : ∀ m, m ≤ 11 → ∃ x : Nat, x < 2 ^ m ∧ mCB S R nr e m = nI x ∧ mBc (nI x) = nI (ckC S R nr e m)
  | 0, _ => ⟨0, by decide, rfl, show mBc (nI 0) = nI 0 by decide +kernel⟩
  | m + 1, hm => by
    obtain ⟨x, h1, h2, h3⟩ := mCB_cnt (S := S) (R := R) (nr := nr) (e := e) m (by omega)
    unfold mCB ckC
    by_cases hc : mChk S R nr m e = true
    · have b := bcs_step m (by omega) x h1
      rw [if_pos hc, if_pos hc, h2]
      refine ⟨x + 2 ^ m, by rw [Nat.pow_succ]; omega, b.2, ?_⟩
      rw [← b.2, b.1, h3]
      exact nI_1 _
    · rw [if_neg hc, if_neg hc, h2]
      exact ⟨x, by rw [Nat.pow_succ]; omega, rfl, h3⟩
theorem ckS_C {S : jS} {n nr nc nk e : Nat} (hT : Told S n nr nc nk) (hP : PT S n nr) (he : e < n) : ∀ m, m ≤ n → ckS S e m = ckC S (sA S 39) nr e m
  | 0, _ => rfl
  | m + 1, hm => by
    have hn := hT.1.2
    unfold ckS ckC
    rw [ckS_C hT hP he m (by omega), ck_bit hT hP he (by omega), decide_eq_true (show m < n by omega), Bool.true_and]
theorem mCp_ck {S : jS} {n nr nc nk : Nat} (hT : Told S n nr nc nk) (hP : PT S n nr) (h11 : n ≤ 11) : ∀ e, e ≤ n → mCp S e = nI (ckE S n e)
  | 0, _ => rfl
  | e + 1, he => by
    obtain ⟨x, h1, h2, h3⟩ := mCB_cnt (S := S) (R := sA S 39) (nr := nr) (e := e) n h11
    unfold mCp ckE
    rw [mCp_ck hT hP h11 e (by omega), hP.2.2.1 e (by omega), h2, h3, ckS_C hT hP (by omega) n (Nat.le_refl n)]
    exact nI_add _ _
theorem ckS_0 {S : jS} {n nr nc nk e : Nat} (hT : Told S n nr nc nk) (hP : PT S n nr) (he : e < n) (hk : enB S e = false) : ∀ m, m ≤ 16 → ckS S e m = 0
  | 0, _ => rfl
  | m + 1, hm => by
    unfold ckS
    rw [ckS_0 hT hP he hk m (by omega)]
    by_cases h : bitR (sA S 40) m e = true
    · have := (ck_pair hT hP he (by omega) h).2.2.1
      rw [hk] at this
      exact absurd this (by decide)
    · rw [if_neg h]
/-- ways there are, where a pair is checked -/
theorem ck_ways {S : jS} {n nr nc nk s e a : Nat} (hT : Told S n nr nc nk) (hP : PT S n nr) (he : e < n) (hs : s < 16) (h : bitR (sA S 40) s e = true) (ha : a < n) (hf : fe1 S e = nI a) : 0 < sA S 41 (s * 16 + a) := by
  have hn := hT.1.2
  obtain ⟨h1, -, -, b, hb, hfb, hw⟩ := ck_pair hT hP he hs h
  have hab : a = b := nI_inj16 (by omega) (by omega) (hf.symm.trans hfb)
  subst hab
  obtain ⟨k, hk, hc, hi⟩ := hP.2.1 a ha s h1
  rw [hc]
  have h1k := hi.mpr hw
  have h16 : 2 ^ a ≤ 2 ^ 16 := Nat.pow_le_pow_right (by decide) (by omega)
  rw [Int32.lt_iff_toInt_lt, nI_toInt (by omega)]
  show (0 : Int) < _
  omega
/-! the least -/
theorem mLe_le {S : jS} {M : Nat → Int} {z : Int} : ∀ e, z ≤ mLe S M e ↔ z ≤ 409595904 ∧ ∀ i, i < e → sA S 40 i ≠ 0 → z ≤ M i
  | 0 => ⟨fun h => ⟨h, fun i hi => absurd hi (Nat.not_lt_zero i)⟩, fun h => h.1⟩
  | e + 1 => by
    have ih := mLe_le (S := S) (M := M) (z := z) e
    by_cases h : sA S 40 e ≠ 0
    · rw [mLe_t h]
      constructor
      · intro q
        have q1 := ih.mp (by omega)
        refine ⟨q1.1, fun i hi hn => ?_⟩
        by_cases he : i = e
        · subst he
          omega
        · exact q1.2 i (by omega) hn
      · intro q
        have q1 := ih.mpr ⟨q.1, fun i hi => q.2 i (by omega)⟩
        have q2 := q.2 e (by omega) h
        omega
    · rw [mLe_f h]
      constructor
      · intro q
        have q1 := ih.mp q
        refine ⟨q1.1, fun i hi hn => ?_⟩
        by_cases he : i = e
        · subst he
          exact absurd hn h
        · exact q1.2 i (by omega) hn
      · intro q
        exact ih.mpr ⟨q.1, fun i hi => q.2 i (by omega)⟩
theorem vLA_le {Q : QC} {b : Bool} {z : Int} : ∀ c, z ≤ vLA Q b c ↔ z ≤ 409595904 ∧ ∀ i, i < c → z ≤ mLe Q.X (Q.T (jOf i b)).2.2.1 Q.n
  | 0 => ⟨fun h => ⟨h, fun i hi => absurd hi (Nat.not_lt_zero i)⟩, fun h => h.1⟩
  | c + 1 => by
    have ih := vLA_le (Q := Q) (b := b) (z := z) c
    unfold vLA
    constructor
    · intro q
      have q1 := ih.mp (by omega)
      refine ⟨q1.1, fun i hi => ?_⟩
      by_cases he : i = c
      · subst he
        omega
      · exact q1.2 i (by omega)
    · intro q
      have q1 := ih.mpr ⟨q.1, fun i hi => q.2 i (by omega)⟩
      have q2 := q.2 c (by omega)
      omega
/-- the law's own least: over the ends, and over the corners of each -/
def lsC (Q : QC) (b : Bool) (e : Nat) (z : Int) : Nat → Int
  | 0 => z
  | c + 1 => min (lsC Q b e z c) ((Q.T (jOf c b)).2.2.1 e)
def lsE (Q : QC) (b : Bool) : Nat → Int
  | 0 => 409595904
  | e + 1 => if enB Q.X e = true then lsC Q b e (lsE Q b e) Q.nc else lsE Q b e
theorem lsC_le {Q : QC} {b : Bool} {e : Nat} {z y : Int} : ∀ c, z ≤ lsC Q b e y c ↔ z ≤ y ∧ ∀ i, i < c → z ≤ (Q.T (jOf i b)).2.2.1 e
  | 0 => ⟨fun h => ⟨h, fun i hi => absurd hi (Nat.not_lt_zero i)⟩, fun h => h.1⟩
  | c + 1 => by
    have ih := lsC_le (Q := Q) (b := b) (e := e) (z := z) (y := y) c
    unfold lsC
    constructor
    · intro q
      have q1 := ih.mp (by omega)
      refine ⟨q1.1, fun i hi => ?_⟩
      by_cases he : i = c
      · subst he
        omega
      · exact q1.2 i (by omega)
    · intro q
      have q1 := ih.mpr ⟨q.1, fun i hi => q.2 i (by omega)⟩
      have q2 := q.2 c (by omega)
      omega
theorem lsE_le {Q : QC} {b : Bool} {z : Int} : ∀ e, z ≤ lsE Q b e ↔ z ≤ 409595904 ∧ ∀ i, i < e → enB Q.X i = true → ∀ c, c < Q.nc → z ≤ (Q.T (jOf c b)).2.2.1 i
  | 0 => ⟨fun h => ⟨h, fun i hi => absurd hi (Nat.not_lt_zero i)⟩, fun h => h.1⟩
  | e + 1 => by
    have ih := lsE_le (Q := Q) (b := b) (z := z) e
    unfold lsE
    by_cases h : enB Q.X e = true
    · rw [if_pos h, lsC_le]
      constructor
      · intro q
        have q1 := ih.mp q.1
        refine ⟨q1.1, fun i hi hn => ?_⟩
        by_cases he : i = e
        · subst he
          exact q.2
        · exact q1.2 i (by omega) hn
      · intro q
        exact ⟨ih.mpr ⟨q.1, fun i hi => q.2 i (by omega)⟩, q.2 e (by omega) h⟩
    · rw [if_neg h]
      constructor
      · intro q
        have q1 := ih.mp q
        refine ⟨q1.1, fun i hi hn => ?_⟩
        by_cases he : i = e
        · subst he
          exact absurd hn h
        · exact q1.2 i (by omega) hn
      · intro q
        exact ih.mpr ⟨q.1, fun i hi => q.2 i (by omega)⟩
/-- the leasts of an end are what mLs says -/
theorem mSettle_3 {S : jS} {j kl ke n e i : Nat} {t : TT} : (i ≠ e → (mSettle S j kl ke n e t).2.2.1 i = t.2.2.1 i) ∧ (i = e → ∃ Z, (mSettle S j kl ke n e t).2.2.1 i = mLs S e Z n) := by
  unfold mSettle
  split
  · exact ⟨fun h => if_neg h, fun h => ⟨_, if_pos h⟩⟩
  · exact ⟨fun h => if_neg h, fun h => ⟨_, if_pos h⟩⟩
theorem mStep_3 {S : jS} {j kl ke n m i : Nat} {p : Nat → Int} {t : TT} : (i ≠ m → (mStep S j kl ke n p m t).2.2.1 i = t.2.2.1 i) ∧ (i = m → kd S m = 7 → ∃ Z, (mStep S j kl ke n p m t).2.2.1 i = mLs S m Z n) := by
  unfold mStep
  rw [mArr_4]
  by_cases h7 : kd S m = 7
  · rw [if_pos h7]
    exact ⟨fun h => mSettle_3.1 h, fun h _ => mSettle_3.2 h⟩
  · rw [if_neg h7]
    exact ⟨fun h => rfl, fun _ z => absurd z h7⟩
theorem mRk1_ls {S : jS} {j kl ke n : Nat} {p : Nat → Int} {t : TT} : ∀ m i, i < m → kd S i = 7 → ∃ Z, (mRk1 S j kl ke n p t m).2.2.1 i = mLs S i Z n
  | 0, i, h, _ => absurd h (Nat.not_lt_zero i)
  | m + 1, i, h, h7 => by
    show ∃ Z, (mStep S j kl ke n p m (mRk1 S j kl ke n p t m)).2.2.1 i = _
    by_cases e : i = m
    · subst e
      exact mStep_3.2 rfl h7
    · obtain ⟨Z, hZ⟩ := mRk1_ls (j := j) (kl := kl) (ke := ke) (p := p) (t := t) m i (by omega) h7
      exact ⟨Z, (mStep_3.1 e).trans hZ⟩
theorem mRk2_ls {S : jS} {j kl ke n : Nat} {t : TT} : ∀ m i, (m ≤ i ∨ ¬ (kd S i = 6 ∨ kd S i = 8) → (mRk2 S j kl ke n t m).2.2.1 i = t.2.2.1 i) ∧ (i < m → kd S i = 6 ∨ kd S i = 8 → ∃ Z, (mRk2 S j kl ke n t m).2.2.1 i = mLs S i Z n)
  | 0, i => ⟨fun _ => rfl, fun h => absurd h (Nat.not_lt_zero i)⟩
  | m + 1, i => by
    have ih := mRk2_ls (S := S) (j := j) (kl := kl) (ke := ke) (t := t) (n := n) m i
    show (_ → (mSt2 S j kl ke n m (mRk2 S j kl ke n t m)).2.2.1 i = _) ∧ (_ → _ → ∃ Z, (mSt2 S j kl ke n m (mRk2 S j kl ke n t m)).2.2.1 i = _)
    unfold mSt2
    by_cases h : kd S m = 6 ∨ kd S m = 8
    · rw [if_pos h]
      refine ⟨fun q => ?_, fun q q2 => ?_⟩
      · have hne : i ≠ m := by
          rintro rfl
          rcases q with q | q
          · omega
          · exact q h
        exact (mSettle_3.1 hne).trans (ih.1 (q.imp (fun z => by omega) id))
      · by_cases e : i = m
        · subst e
          exact mSettle_3.2 rfl
        · obtain ⟨Z, hZ⟩ := ih.2 (by omega) q2
          exact ⟨Z, (mSettle_3.1 e).trans hZ⟩
    · rw [if_neg h]
      refine ⟨fun q => ih.1 (q.imp (fun z => by omega) id), fun q q2 => ?_⟩
      have hne : i ≠ m := by
        rintro rfl
        exact h q2
      exact ih.2 (by omega) q2
theorem mRk_ls {S : jS} {j kl ke n i : Nat} {p : Nat → Int} {t : TT} (hi : i < n) (hk : enB S i = true) : ∃ Z, (mRk S j kl ke n p t).2.2.1 i = mLs S i Z n := by
  unfold mRk
  rcases of_decide_eq_true hk with h | h | h
  · exact (mRk2_ls n i).2 hi (Or.inl h)
  · rw [(mRk2_ls n i).1 (Or.inr (by rw [show kd S i = 7 from h]; decide))]
    exact mRk1_ls n i hi h
  · exact (mRk2_ls n i).2 hi (Or.inr h)
theorem mLs_0 {S : jS} {e : Nat} {Z : Nat → Int} (h : sA S 40 e = 0) : ∀ m, m ≤ 16 → mLs S e Z m = 409595904
  | 0, _ => rfl
  | m + 1, hm => by
    unfold mLs
    rw [mLs_0 h m (by omega), show mLo S e Z m = 409595904 from if_neg (by rw [bitR_W, h, bitW_0 m (by omega)]; decide)]
    rfl
/-- the class's least of all and the law's are one -/
theorem vLA_lsE {Q : QC} {S : jS} {b : Bool} (h : Inq Q S) : vLA Q b Q.nc = lsE Q b Q.n := by
  have hx := Inq_X h
  have hn := hx.1.1.2
  have key : ∀ z, z ≤ vLA Q b Q.nc ↔ z ≤ lsE Q b Q.n := by
    intro z
    rw [vLA_le, lsE_le]
    constructor
    · rintro ⟨h1, h2⟩
      refine ⟨h1, fun e he hk c hc => ?_⟩
      by_cases h0 : sA Q.X 40 e = 0
      · obtain ⟨Z, hZ⟩ := mRk_ls (S := Q.X) (j := jOf c b) (kl := Q.kl ((jOf c b - 1) / 2)) (ke := Q.ke ((jOf c b - 1) / 2)) (p := Q.p) (t := (fun _ => 0, fun _ => 0, fun _ => 0, fun _ => 0)) he hk
        show z ≤ (mRk Q.X (jOf c b) _ _ Q.n Q.p _).2.2.1 e
        rw [hZ, mLs_0 h0 Q.n hn]
        exact h1
      · exact ((mLe_le Q.n).mp (h2 c hc)).2 e he h0
    · rintro ⟨h1, h2⟩
      refine ⟨h1, fun c hc => (mLe_le Q.n).mpr ⟨h1, fun e he h0 => h2 e he (ck_end (nc := Q.nc) (nk := Q.nk) hx.2 he h0) c hc⟩⟩
  exact Int.le_antisymm ((key _).mp (Int.le_refl _)) ((key _).mpr (Int.le_refl _))
/-! a false exception for all -/
theorem ex_sort {S : jS} {s e : Nat} (h0 : sI S 29 0 = 0) (h1 : sI S 29 1 = -1) (h2 : sI S 29 2 = -1) : mSort S s e 1 = 0 := by
  have hw : (mWin S (nI s) (nI e) 1).1 = nI 0 := by
    show (if mFits S 0 (nI s) (nI e) = true ∧ ¬ mWeight S 0 < (mWin S (nI s) (nI e) 0).2 then (nI 0, mWeight S 0) else mWin S (nI s) (nI e) 0).1 = _
    rw [if_pos]
    refine ⟨?_, ?_⟩
    · unfold mFits
      simp only [Nat.zero_add, h1, h2, true_or, and_self, decide_true]
    · unfold mWeight
      simp only [Nat.zero_add, h0, h1, h2, if_true]
      show ¬ (4 + 0 + 0 : Int32) < 0
      decide
  unfold mSort
  rw [hw, if_neg (by decide)]
  exact h0
theorem ex_chk {S : jS} {R : Nat → Int32} {s e : Nat} (h0 : sI S 29 0 = 0) (h1 : sI S 29 1 = -1) (h2 : sI S 29 2 = -1) : mChk S R 1 s e = false := by
  unfold mChk
  rw [ex_sort h0 h1 h2]
  simp
theorem mCp_0 {S : jS} : ∀ n, (∀ e, e < n → sA S 40 e = 0) → mCp S n = 0
  | 0, _ => rfl
  | n + 1, h => by
    unfold mCp
    rw [mCp_0 n (fun e he => h e (by omega)), h n (by omega)]
    decide +kernel
theorem mLe_0 {S : jS} {M : Nat → Int} : ∀ n, (∀ e, e < n → sA S 40 e = 0) → mLe S M n = 409595904
  | 0, _ => rfl
  | n + 1, h => by
    rw [mLe_f (by rw [h n (by omega)]; exact fun z => z rfl)]
    exact mLe_0 n (fun e he => h e (by omega))
theorem vLA_0 {Q : QC} {b : Bool} (h : ∀ e, e < Q.n → sA Q.X 40 e = 0) : ∀ c, vLA Q b c = 409595904
  | 0 => rfl
  | c + 1 => by
    unfold vLA
    rw [vLA_0 h c, mLe_0 Q.n h]
    rfl
theorem vLW_0 {Q : QC} {i : Nat} {z : Int32} (h : ∀ e, e < Q.n → sA Q.X 40 e = 0) : ∀ c, vLW Q i z c = 409595904
  | 0 => rfl
  | c + 1 => by
    unfold vLW
    rw [vLW_0 h c, mLe_0 Q.n h]
    rfl
theorem bcS_0 {Q : QC} {i q : Nat} (h : ∀ e, e < Q.n → sA Q.X 40 e = 0) : bcS Q i q (409595904, -1) = (409595904, -1) := by
  by_cases hz : sI Q.X (i + 13) 5 = (1 <<< (nI q &&& 31))
  · exact bcS_e hz
  · refine bcS_f hz ?_
    rw [vLW_0 h]
    exact Int.lt_irrefl _
theorem vBCi_0 {Q : QC} {i : Nat} (h : ∀ e, e < Q.n → sA Q.X 40 e = 0) : ∀ q, vBCi Q i (409595904, -1) q = (409595904, -1)
  | 0 => rfl
  | q + 1 => by
    unfold vBCi
    rw [vBCi_0 h q]
    exact bcS_0 h
theorem vBCo_0 {Q : QC} (h : ∀ e, e < Q.n → sA Q.X 40 e = 0) : ∀ i, vBCo Q i = (409595904, -1)
  | 0 => by
    unfold vBCo
    rw [vLA_0 h]
  | i + 1 => by
    unfold vBCo
    rw [vBCo_0 h i]
    exact vBCi_0 h 3
/-! the same, of a run of asking -/
theorem late_t {c : Nat} : ¬ isLateT (jOf c true) = 0 := by
  show ¬ isLateT (2 * c + 1) = 0
  unfold isLateT
  rw [if_neg (by omega), if_pos (by omega)]
  decide
theorem late_f {c : Nat} : isLateT (jOf c false) = 0 := by
  show isLateT (2 * c + 2) = 0
  unfold isLateT
  rw [if_neg (by omega), if_neg (by omega)]
theorem jOf_r {c : Nat} {b : Bool} (hc : c < 3) : 1 ≤ jOf c b ∧ jOf c b < 7 := by
  unfold jOf
  split <;> omega
theorem Q_p {Q : QC} {S : jS} (h : Inq Q S) : ∀ i, i < Q.n → 0 ≤ Q.p i ∧ Q.p i ≤ 17000 := p_r h.1.1 h.1.2.1 h.1.2.2.2.2.2.2
/-- the early is never later than the late -/
theorem Q_le {Q : QC} {S : jS} {c s i f : Nat} (h : Inq Q S) (hc : c < 3) (hs : s < 16) (hi : i < Q.n) (hf : f ≤ 1) : mAr Q.X (Q.T (jOf c false)).1 s i f ≤ mAr Q.X (Q.T (jOf c true)).1 s i f := by
  have hx := Inq_X h
  unfold mAr
  by_cases hb : bitR (sA Q.X 39) s i = true
  · rw [if_pos hb, if_pos hb]
    have hk := (h.1.2.2.1 c hc).2.2.2
    unfold QC.T
    rw [jOf_c, jOf_c]
    exact mRk_le late_f late_t hx.1 hx.2.1 hk (fun i hi => (Q_p h i hi).1) s i f hs hi hf hb
  · rw [if_neg hb, if_neg hb]
    exact Int.le_refl _
/-- an arrival is none, or no less than 0 -/
theorem Q_ar {Q : QC} {S : jS} {c s i f : Nat} {b : Bool} (h : Inq Q S) (hc : c < 3) : mAr Q.X (Q.T (jOf c b)).1 s i f = (if bitR (sA Q.X 39) s i = true then mAr Q.X (Q.T (jOf c b)).1 s i f else -4096) ∧ (bitR (sA Q.X 39) s i = true → 0 ≤ mAr Q.X (Q.T (jOf c b)).1 s i f) ∧ (¬ bitR (sA Q.X 39) s i = true → mAr Q.X (Q.T (jOf c b)).1 s i f = -4096) := by
  have hj := jOf_r (b := b) hc
  have ok := T_ok h hj.2 hj.1
  refine ⟨?_, fun hb => ?_, fun hb => if_neg hb⟩
  · by_cases hb : bitR (sA Q.X 39) s i = true
    · rw [if_pos hb]
    · rw [if_neg hb]
      exact if_neg hb
  · unfold mAr
    rw [if_pos hb]
    exact (ok.1 _).1
theorem Q_ar_dB {Q : QC} {S : jS} {c s i f : Nat} {b : Bool} (h : Inq Q S) (hc : c < 3) : dB (mAr Q.X (Q.T (jOf c b)).1 s i f) := by
  have hj := jOf_r (b := b) hc
  have ok := T_ok h hj.2 hj.1
  have := okA_x ok.1 (s * 32 + i * 2 + f)
  unfold mAr
  split
  · exact dB_of (by omega) (by omega)
  · exact dB_of (by omega) (by omega)
theorem Q_br {Q : QC} {c i : Nat} {b : Bool} (hi : i < Q.n) : 0 ≤ (Q.T (jOf c b)).2.2.2 i ∧ (Q.T (jOf c b)).2.2.2 i ≤ 2048 * (per Q.X (sV Q.X i) : Nat) := mRk_br hi
/-- what is left is free but where a pair is checked -/
theorem Q_lo {Q : QC} {S : jS} {c s e : Nat} {b : Bool} (h : Inq Q S) (hc : c < 3) : (bitR (sA Q.X 40) s e = true → -20000000 ≤ mLo Q.X e (Q.T (jOf c b)).2.1 s ∧ mLo Q.X e (Q.T (jOf c b)).2.1 s ≤ 20000000) ∧ (¬ bitR (sA Q.X 40) s e = true → mLo Q.X e (Q.T (jOf c b)).2.1 s = 409595904) := by
  have hj := jOf_r (b := b) hc
  have ok := T_ok h hj.2 hj.1
  refine ⟨fun hb => ?_, fun hb => if_neg hb⟩
  unfold mLo
  rw [if_pos hb]
  exact ok.2.1 _
theorem Q_ls {Q : QC} {S : jS} {c e : Nat} {b : Bool} (h : Inq Q S) (hc : c < 3) : -20000000 ≤ (Q.T (jOf c b)).2.2.1 e ∧ (Q.T (jOf c b)).2.2.1 e ≤ 409595904 := by
  have hj := jOf_r (b := b) hc
  exact (T_ok h hj.2 hj.1).2.2.1 e
theorem lsC_r {Q : QC} {S : jS} {b : Bool} {e : Nat} {z : Int} (h : Inq Q S) (hz : -20000000 ≤ z ∧ z ≤ 409595904) : ∀ c, c ≤ 3 → -20000000 ≤ lsC Q b e z c ∧ lsC Q b e z c ≤ 409595904
  | 0, _ => hz
  | c + 1, hc => by
    have ih := lsC_r (b := b) (e := e) h hz c (by omega)
    have := Q_ls (b := b) (e := e) h (show c < 3 by omega)
    unfold lsC
    omega
theorem lsE_r {Q : QC} {S : jS} {b : Bool} (h : Inq Q S) : ∀ e, -20000000 ≤ lsE Q b e ∧ lsE Q b e ≤ 409595904
  | 0 => by unfold lsE; omega
  | e + 1 => by
    have ih := lsE_r (b := b) h e
    unfold lsE
    split
    · exact lsC_r h ih _ h.1.1.2.2.1.2.2
    · exact ih
