/-! The model's functions hang on what is told and on the paths' rows alone -/
/-- told alike, and the paths' rows the same -/
def TA (S S' : jS) : Prop := TZ S S' ∧ S'.2.1 = S.2.1 ∧ ∀ i, i < 16 → sV S i < 4
theorem mkB_s {S S' : jS} (h : TA S S') {i f e : Nat} (hi : i < 16) : mkB S' i f e = mkB S i f e := by
  unfold mkB
  rw [kd_s h.1 hi]
theorem okC_s {S S' : jS} (h : TA S S') {s i e f : Nat} {v : Int32} (hi : i < 16) : okC S' s i e v f = okC S s i e v f := by
  unfold okC
  rw [mkB_s h hi, show sA S' 39 = sA S 39 from congrFun h.2.1 39]
theorem mSrc_s {S S' : jS} (h : TA S S') {j s i e : Nat} {A : Nat → Int} (hi : i < 16) : mSrc S' j A s i e = mSrc S j A s i e := by
  unfold mSrc
  rw [fe1_s h.1 hi, fe2_s h.1 hi, okC_s h hi, okC_s h hi, okC_s h hi, okC_s h hi]
theorem mP1_s {S S' : jS} (h : TA S S') {j q e s : Nat} {d : Int} {A : Nat → Int} (hq : q < 16) : mP1 S' j q e d s A = mP1 S j q e d s A := by
  unfold mP1
  rw [mSrc_s h hq, show sA S' 39 = sA S 39 from congrFun h.2.1 39]
theorem mPs_s {S S' : jS} (h : TA S S') {j q e : Nat} {d : Int} {A : Nat → Int} (hq : q < 16) : ∀ s, mPs S' j q e d A s = mPs S j q e d A s
  | 0 => rfl
  | s + 1 => by
    show mP1 S' j q e d s (mPs S' j q e d A s) = mP1 S j q e d s (mPs S j q e d A s)
    rw [mPs_s h hq s, mP1_s h hq]
theorem mPass_s {S S' : jS} (h : TA S S') {j q kl ke : Nat} {p : Int} {A : Nat → Int} (hq : q < 16) : mPass S' j q kl ke p A = mPass S j q kl ke p A := by
  unfold mPass
  rw [mPs_s h hq, mPs_s h hq]
theorem lgn_s {S S' : jS} (h : TA S S') {i : Nat} (hi : i < 16) : lgn S' i = lgn S i := by
  have hv := h.2.2 i hi
  unfold lgn lat skw
  rw [show sV S' = sV S from h.1.2.2.2, show sI S' (sV S i + 6) 1 = sI S (sV S i + 6) 1 from h.1.1 _ _ (by omega) (by omega), show sI S' (i + 13) 7 = sI S (i + 13) 7 from h.1.1 _ _ (by omega) (by omega)]
theorem mCrd_s {S S' : jS} (h : TA S S') {kl ke s e : Nat} (hs : s < 16) (he : e < 16) : mCrd S' kl ke s e = mCrd S kl ke s e := by
  have v1 := h.2.2 s hs
  have v2 := h.2.2 e he
  unfold mCrd lat
  rw [show sV S' = sV S from h.1.2.2.2, show sI S' (sV S s + 6) 1 = sI S (sV S s + 6) 1 from h.1.1 _ _ (by omega) (by omega), show sI S' (sV S e + 6) 1 = sI S (sV S e + 6) 1 from h.1.1 _ _ (by omega) (by omega), show sI S' (sV S s + 6) 4 = sI S (sV S s + 6) 4 from h.1.1 _ _ (by omega) (by omega), show sI S' (sV S e + 6) 4 = sI S (sV S e + 6) 4 from h.1.1 _ _ (by omega) (by omega)]
theorem uns_s {S S' : jS} (h : TA S S') {e : Nat} (he : e < 16) : uns S' (sV S' e) = uns S (sV S e) := by
  have v2 := h.2.2 e he
  unfold uns
  rw [show sV S' = sV S from h.1.2.2.2, show sI S' (sV S e + 6) 2 = sI S (sV S e + 6) 2 from h.1.1 _ _ (by omega) (by omega)]
theorem per_s {S S' : jS} (h : TA S S') {e : Nat} (he : e < 16) : per S' (sV S' e) = per S (sV S e) := by
  have v2 := h.2.2 e he
  unfold per
  rw [show sV S' = sV S from h.1.2.2.2, show sI S' (sV S e + 6) 0 = sI S (sV S e + 6) 0 from h.1.1 _ _ (by omega) (by omega)]
theorem mLf_s {S S' : jS} (h : TA S S') {j kl ke s e : Nat} {A : Nat → Int} (hs : s < 16) (he : e < 16) : mLf S' j kl ke A s e = mLf S j kl ke A s e := by
  unfold mLf
  rw [kd_s h.1 he, fe1_s h.1 he, lgn_s h hs, lgn_s h he, mCrd_s h hs he, uns_s h he, show sA S' 42 = sA S 42 from congrFun h.2.1 42]
theorem mSe_s {S S' : jS} (h : TA S S') {j kl ke e : Nat} {A Z : Nat → Int} (he : e < 16) : ∀ m, m ≤ 16 → mSe S' j kl ke e A Z m = mSe S j kl ke e A Z m
  | 0, _ => rfl
  | m + 1, hm => by
    unfold mSe
    rw [mSe_s h he m (by omega), mLf_s h (by omega) he, show sA S' 40 = sA S 40 from congrFun h.2.1 40]
theorem mLk_s {S S' : jS} (h : TA S S') {e : Nat} {Z : Nat → Int} : ∀ m, mLk S' e Z m = mLk S e Z m
  | 0 => rfl
  | m + 1 => by
    unfold mLk
    rw [mLk_s h m, show sA S' 40 = sA S 40 from congrFun h.2.1 40]
theorem mBr_s {S S' : jS} (h : TA S S') {n e : Nat} {Z : Nat → Int} (he : e < 16) : mBr S' n e Z = mBr S n e Z := by
  unfold mBr
  rw [mLk_s h, per_s h he]
theorem mLn_s {S S' : jS} (h : TA S S') {e : Nat} {b : Int} {Z : Nat → Int} : ∀ m, mLn S' e b Z m = mLn S e b Z m
  | 0 => rfl
  | m + 1 => by
    unfold mLn
    rw [mLn_s h m, show sA S' 40 = sA S 40 from congrFun h.2.1 40]
theorem mLo_s {S S' : jS} (h : TA S S') {e s : Nat} {Z : Nat → Int} : mLo S' e Z s = mLo S e Z s := by
  unfold mLo
  rw [show sA S' 40 = sA S 40 from congrFun h.2.1 40]
theorem mLs_s {S S' : jS} (h : TA S S') {e : Nat} {Z : Nat → Int} : ∀ m, mLs S' e Z m = mLs S e Z m
  | 0 => rfl
  | m + 1 => by
    unfold mLs
    rw [mLs_s h m, mLo_s h]
theorem mSettle_s {S S' : jS} (h : TA S S') {j kl ke n e : Nat} {t : TT} (hn : n ≤ 16) (he : e < 16) : mSettle S' j kl ke n e t = mSettle S j kl ke n e t := by
  unfold mSettle
  simp only [mSe_s h he n hn, mBr_s h he, mLn_s h, mLs_s h, kd_s h.1 he]
theorem mArr_s' {S S' : jS} (h : TA S S') {j kl ke m : Nat} {p : Nat → Int} {t : TT} (hm : m < 16) : mArr S' j kl ke p m t = mArr S j kl ke p m t := by
  unfold mArr
  rw [stB_s h.1 hm, gaB_s h.1 hm, mPass_s h hm]
theorem mStep_s {S S' : jS} (h : TA S S') {j kl ke n m : Nat} {p : Nat → Int} {t : TT} (hn : n ≤ 16) (hm : m < 16) : mStep S' j kl ke n p m t = mStep S j kl ke n p m t := by
  unfold mStep
  rw [mArr_s' h hm, mSettle_s h hn hm, kd_s h.1 hm]
theorem mRk1_s {S S' : jS} (h : TA S S') {j kl ke n : Nat} {p : Nat → Int} {t : TT} (hn : n ≤ 16) : ∀ m, m ≤ n → mRk1 S' j kl ke n p t m = mRk1 S j kl ke n p t m
  | 0, _ => rfl
  | m + 1, hm => by
    unfold mRk1
    rw [mRk1_s h hn m (by omega), mStep_s h hn (by omega)]
theorem mRk2_s {S S' : jS} (h : TA S S') {j kl ke n : Nat} {t : TT} (hn : n ≤ 16) : ∀ m, m ≤ n → mRk2 S' j kl ke n t m = mRk2 S j kl ke n t m
  | 0, _ => rfl
  | m + 1, hm => by
    unfold mRk2 mSt2
    rw [mRk2_s h hn m (by omega), mSettle_s h hn (by omega), kd_s h.1 (show m < 16 by omega)]
theorem mRk_s {S S' : jS} (h : TA S S') {j kl ke n : Nat} {p : Nat → Int} {t : TT} (hn : n ≤ 16) : mRk S' j kl ke n p t = mRk S j kl ke n p t := by
  unfold mRk
  rw [mRk1_s h hn n (Nat.le_refl n), mRk2_s h hn n (Nat.le_refl n)]
theorem mLe_s {S S' : jS} (h : S'.2.1 = S.2.1) {M : Nat → Int} : ∀ e, mLe S' M e = mLe S M e
  | 0 => rfl
  | e + 1 => by
    unfold mLe
    rw [mLe_s h e, show sA S' 40 = sA S 40 from congrFun h 40]
/-- the least of the ends hangs on the ends that are checked -/
theorem mLe_c {S : jS} {n nr nc nk : Nat} {M M' : Nat → Int} (hT : Told S n nr nc nk) (hP : PT S n nr) (h : ∀ e, e < n → kd S e = 6 ∨ kd S e = 7 ∨ kd S e = 8 → M e = M' e) : ∀ e, e ≤ n → mLe S M e = mLe S M' e
  | 0, _ => rfl
  | e + 1, he => by
    have ih := mLe_c hT hP h e (by omega)
    have hn := hT.1.2
    by_cases h0 : sA S 40 e ≠ 0
    · rw [mLe_t h0, mLe_t h0, ih]
      have hk : kd S e = 6 ∨ kd S e = 7 ∨ kd S e = 8 := by
        rw [hP.2.2.1 e (by omega)] at h0
        have hx : ∀ m, m ≤ 16 → mCB S (sA S 39) nr e m ≠ 0 → enB S e = true := by
          intro m
          induction m with
          | zero => exact fun _ z => absurd rfl z
          | succ m ihm =>
            intro hm hz
            unfold mCB at hz
            by_cases hc : mChk S (sA S 39) nr m e = true
            · exact (chk_come hc).1
            · rw [if_neg hc] at hz
              exact ihm (by omega) hz
        exact of_decide_eq_true (hx n hn h0)
      rw [h e (by omega) hk]
    · rw [mLe_f h0, mLe_f h0, ih]
