/-! .. nor does what is left -/
/-- the checks to e agree -/
def agZ (S : jS) (n e : Nat) (Z Z' : Nat → Int) : Prop := ∀ s, s < n → bitR (sA S 40) s e = true → Z (s * 16 + e) = Z' (s * 16 + e)
theorem mSe_at {S : jS} {j kl ke e : Nat} {A Z : Nat → Int} (he : e < 16) : ∀ m, (∀ s, s < m → bitR (sA S 40) s e = true → mSe S j kl ke e A Z m (s * 16 + e) = mLf S j kl ke A s e) ∧ ∀ x, x % 16 ≠ e → mSe S j kl ke e A Z m x = Z x
  | 0 => ⟨fun _ h => absurd h (by omega), fun _ _ => rfl⟩
  | m + 1 => by
    have ih := mSe_at (S := S) (j := j) (kl := kl) (ke := ke) (A := A) (Z := Z) he m
    cases hb : bitR (sA S 40) m e with
    | true =>
      rw [mSe_t hb]
      refine ⟨fun s hs hbs => ?_, fun x hx => ?_⟩
      · unfold upZ
        by_cases h : s = m
        · subst h
          exact if_pos rfl
        · rw [if_neg (by omega)]
          exact ih.1 s (by omega) hbs
      · unfold upZ
        by_cases h : x = m * 16 + e
        · omega
        · rw [if_neg h]
          exact ih.2 x hx
    | false =>
      rw [mSe_f hb]
      refine ⟨fun s hs hbs => ?_, ih.2⟩
      by_cases h : s = m
      · subst h
        rw [hb] at hbs
        exact absurd hbs (by decide)
      · exact ih.1 s (by omega) hbs
theorem mLk_c {S : jS} {n e : Nat} {Z Z' : Nat → Int} (h : agZ S n e Z Z') : ∀ m, m ≤ n → mLk S e Z m = mLk S e Z' m
  | 0, _ => rfl
  | m + 1, hm => by
    have ih := mLk_c h m (by omega)
    cases hb : bitR (sA S 40) m e with
    | true => rw [mLk_t hb, mLk_t hb, ih, h m (by omega) hb]
    | false => rw [mLk_f hb, mLk_f hb, ih]
theorem mLs_c {S : jS} {n e : Nat} {Z Z' : Nat → Int} (h : agZ S n e Z Z') : ∀ m, m ≤ n → mLs S e Z m = mLs S e Z' m
  | 0, _ => rfl
  | m + 1, hm => by
    have ih := mLs_c h m (by omega)
    unfold mLs mLo
    rw [ih]
    cases hb : bitR (sA S 40) m e with
    | true => rw [if_pos rfl, if_pos rfl, h m (by omega) hb]
    | false => rw [if_neg (by decide), if_neg (by decide)]
def lnv (b z : Int) : Int := if z < 0 then min (z + b) 0 else z
theorem mLn_at {S : jS} {e : Nat} {b : Int} {Z : Nat → Int} (he : e < 16) : ∀ m, (∀ s, s < m → bitR (sA S 40) s e = true → mLn S e b Z m (s * 16 + e) = lnv b (Z (s * 16 + e))) ∧ (∀ s, m ≤ s → mLn S e b Z m (s * 16 + e) = Z (s * 16 + e)) ∧ ∀ x, x % 16 ≠ e → mLn S e b Z m x = Z x
  | 0 => ⟨fun _ h => absurd h (by omega), fun _ _ => rfl, fun _ _ => rfl⟩
  | m + 1 => by
    have ih := mLn_at (S := S) (b := b) (Z := Z) he m
    have hz := ih.2.1 m (Nat.le_refl m)
    cases hb : bitR (sA S 40) m e with
    | true =>
      by_cases hneg : mLn S e b Z m (m * 16 + e) < 0
      · rw [mLn_t hb hneg]
        refine ⟨fun s hs hbs => ?_, fun s hs => ?_, fun x hx => ?_⟩
        · unfold upZ
          by_cases h : s = m
          · subst h
            rw [if_pos rfl, hz]
            rw [hz] at hneg
            unfold lnv
            rw [if_pos hneg]
          · rw [if_neg (by omega)]
            exact ih.1 s (by omega) hbs
        · unfold upZ
          rw [if_neg (by omega)]
          exact ih.2.1 s (by omega)
        · unfold upZ
          rw [if_neg (fun h => by omega)]
          exact ih.2.2 x hx
      · rw [mLn_g hneg]
        refine ⟨fun s hs hbs => ?_, fun s hs => ih.2.1 s (by omega), ih.2.2⟩
        by_cases h : s = m
        · subst h
          rw [hz]
          rw [hz] at hneg
          unfold lnv
          rw [if_neg hneg]
        · exact ih.1 s (by omega) hbs
    | false =>
      rw [mLn_f hb]
      refine ⟨fun s hs hbs => ?_, fun s hs => ih.2.1 s (by omega), ih.2.2⟩
      by_cases h : s = m
      · subst h
        rw [hb] at hbs
        exact absurd hbs (by decide)
      · exact ih.1 s (by omega) hbs
/-- two rows of tables agree: arrivals below m, the ends of K, borrows below m -/
def agT (S : jS) (n m : Nat) (K : Nat → Prop) (t t' : TT) : Prop := agA S m t.1 t'.1 ∧ (∀ e, e < n → K e → agZ S n e t.2.1 t'.2.1 ∧ t.2.2.1 e = t'.2.2.1 e) ∧ ∀ i, i < m → t.2.2.2 i = t'.2.2.2 i
theorem upZ_c {F F' : Nat → Int} {k x : Nat} {v v' : Int} (hv : v = v') (h : x = k ∨ F x = F' x) : upZ F k v x = upZ F' k v' x := by
  unfold upZ
  by_cases hx : x = k
  · rw [if_pos hx, if_pos hx, hv]
  · rw [if_neg hx, if_neg hx]
    exact h.resolve_left hx
/-- what a check to e reads agrees -/
def agF (S : jS) (n e : Nat) (A A' : Nat → Int) : Prop := ∀ s, s < n → bitR (sA S 40) s e = true → A (s * 32 + (fe1 S e).toNatClampNeg * 2 + 0) = A' (s * 32 + (fe1 S e).toNatClampNeg * 2 + 0) ∧ A (s * 32 + (fe1 S e).toNatClampNeg * 2 + 1) = A' (s * 32 + (fe1 S e).toNatClampNeg * 2 + 1)
theorem mSettle_ag {S : jS} {n m j kl ke e : Nat} {K : Nat → Prop} {t t' : TT} (hn : n ≤ 16) (he : e < n) (hF : agF S n e t.1 t'.1) (h : agT S n m K t t') : agT S n m (fun x => K x ∨ x = e) (mSettle S j kl ke n e t) (mSettle S j kl ke n e t') := by
  obtain ⟨A, Z, M, BB⟩ := t
  obtain ⟨A', Z', M', BB'⟩ := t'
  obtain ⟨h1, h2, h3⟩ := h
  have s1 := mSe_at (S := S) (j := j) (kl := kl) (ke := ke) (A := A) (Z := Z) (show e < 16 by omega) n
  have s2 := mSe_at (S := S) (j := j) (kl := kl) (ke := ke) (A := A') (Z := Z') (show e < 16 by omega) n
  have hSe : agZ S n e (mSe S j kl ke e A Z n) (mSe S j kl ke e A' Z' n) := by
    intro s hs hb
    rw [s1.1 s hs hb, s2.1 s hs hb]
    have hf := hF s hs hb
    unfold mLf
    rw [show A (s * 32 + (fe1 S e).toNatClampNeg * 2 + 0) = A' (s * 32 + (fe1 S e).toNatClampNeg * 2 + 0) from hf.1, show A (s * 32 + (fe1 S e).toNatClampNeg * 2 + 1) = A' (s * 32 + (fe1 S e).toNatClampNeg * 2 + 1) from hf.2]
  have hBr : mBr S n e (mSe S j kl ke e A Z n) = mBr S n e (mSe S j kl ke e A' Z' n) := by
    unfold mBr
    rw [mLk_c hSe n (Nat.le_refl n)]
  have l1 := mLn_at (S := S) (b := mBr S n e (mSe S j kl ke e A Z n)) (Z := mSe S j kl ke e A Z n) (show e < 16 by omega) n
  have l2 := mLn_at (S := S) (b := mBr S n e (mSe S j kl ke e A' Z' n)) (Z := mSe S j kl ke e A' Z' n) (show e < 16 by omega) n
  have hLn : agZ S n e (mLn S e (mBr S n e (mSe S j kl ke e A Z n)) (mSe S j kl ke e A Z n) n) (mLn S e (mBr S n e (mSe S j kl ke e A' Z' n)) (mSe S j kl ke e A' Z' n) n) := by
    intro s hs hb
    rw [l1.1 s hs hb, l2.1 s hs hb, hBr, hSe s hs hb]
  have ho : ∀ e', e' < n → e' ≠ e → ∀ s, (s * 16 + e') % 16 ≠ e := fun e' h1 h2 s => by omega
  by_cases hc : ¬ isLateT j = 0 ∧ kd S e = 7
  · rw [mSettle_t hc.1 hc.2, mSettle_t hc.1 hc.2]
    refine ⟨h1, fun e' he' hK => ?_, fun i hi => upZ_c hBr (Or.inr (h3 i hi))⟩
    by_cases hee : e' = e
    · subst hee
      exact ⟨hLn, upZ_c (mLs_c hLn n (Nat.le_refl n)) (Or.inl rfl)⟩
    · have hk := h2 e' he' (hK.resolve_right hee)
      refine ⟨fun s hs hb => ?_, upZ_c (mLs_c hLn n (Nat.le_refl n)) (Or.inr hk.2)⟩
      show mLn S e _ _ n (s * 16 + e') = mLn S e _ _ n (s * 16 + e')
      rw [l1.2.2 _ (ho e' he' hee s), l2.2.2 _ (ho e' he' hee s), s1.2 _ (ho e' he' hee s), s2.2 _ (ho e' he' hee s)]
      exact hk.1 s hs hb
  · have q1 : mSettle S j kl ke n e (A, Z, M, BB) = (A, mSe S j kl ke e A Z n, upZ M e (mLs S e (mSe S j kl ke e A Z n) n), BB) := if_neg hc
    have q2 : mSettle S j kl ke n e (A', Z', M', BB') = (A', mSe S j kl ke e A' Z' n, upZ M' e (mLs S e (mSe S j kl ke e A' Z' n) n), BB') := if_neg hc
    rw [q1, q2]
    refine ⟨h1, fun e' he' hK => ?_, h3⟩
    by_cases hee : e' = e
    · subst hee
      exact ⟨hSe, upZ_c (mLs_c hSe n (Nat.le_refl n)) (Or.inl rfl)⟩
    · have hk := h2 e' he' (hK.resolve_right hee)
      refine ⟨fun s hs hb => ?_, upZ_c (mLs_c hSe n (Nat.le_refl n)) (Or.inr hk.2)⟩
      show mSe S j kl ke e A Z n (s * 16 + e') = mSe S j kl ke e A' Z' n (s * 16 + e')
      rw [s1.2 _ (ho e' he' hee s), s2.2 _ (ho e' he' hee s)]
      exact hk.1 s hs hb
theorem mSettle_b {S : jS} {n j kl ke e : Nat} {t t' : TT} (hn : n ≤ 16) (he : e < n) (hF : agF S n e t.1 t'.1) (hB : t.2.2.2 e = t'.2.2.2 e) : (mSettle S j kl ke n e t).2.2.2 e = (mSettle S j kl ke n e t').2.2.2 e := by
  obtain ⟨A, Z, M, BB⟩ := t
  obtain ⟨A', Z', M', BB'⟩ := t'
  have s1 := mSe_at (S := S) (j := j) (kl := kl) (ke := ke) (A := A) (Z := Z) (show e < 16 by omega) n
  have s2 := mSe_at (S := S) (j := j) (kl := kl) (ke := ke) (A := A') (Z := Z') (show e < 16 by omega) n
  have hSe : agZ S n e (mSe S j kl ke e A Z n) (mSe S j kl ke e A' Z' n) := by
    intro s hs hb
    rw [s1.1 s hs hb, s2.1 s hs hb]
    have hf := hF s hs hb
    unfold mLf
    rw [show A (s * 32 + (fe1 S e).toNatClampNeg * 2 + 0) = A' (s * 32 + (fe1 S e).toNatClampNeg * 2 + 0) from hf.1, show A (s * 32 + (fe1 S e).toNatClampNeg * 2 + 1) = A' (s * 32 + (fe1 S e).toNatClampNeg * 2 + 1) from hf.2]
  have hBr : mBr S n e (mSe S j kl ke e A Z n) = mBr S n e (mSe S j kl ke e A' Z' n) := by
    unfold mBr
    rw [mLk_c hSe n (Nat.le_refl n)]
  by_cases hc : ¬ isLateT j = 0 ∧ kd S e = 7
  · rw [mSettle_t hc.1 hc.2, mSettle_t hc.1 hc.2]
    exact upZ_c hBr (Or.inl rfl)
  · have q1 : mSettle S j kl ke n e (A, Z, M, BB) = (A, mSe S j kl ke e A Z n, upZ M e (mLs S e (mSe S j kl ke e A Z n) n), BB) := if_neg hc
    have q2 : mSettle S j kl ke n e (A', Z', M', BB') = (A', mSe S j kl ke e A' Z' n, upZ M' e (mLs S e (mSe S j kl ke e A' Z' n) n), BB') := if_neg hc
    rw [q1, q2]
    exact hB
/-- what a check says of its feed -/
theorem chk_bit {S : jS} {n nr nc nk s e : Nat} (hT : Told S n nr nc nk) (hP : PT S n nr) (hs : s < n) (he : e < n) (hb : bitR (sA S 40) s e = true) : mChk S (sA S 39) nr s e = true := by
  have hn := hT.1.2
  rw [bitR_W, hP.2.2.1 e he, mCB_bit (by omega) n (by omega)] at hb
  simp only [Bool.and_eq_true, decide_eq_true_eq] at hb
  exact hb.2
theorem chk_come {S : jS} {R : Nat → Int32} {nr s e : Nat} (h : mChk S R nr s e = true) : enB S e = true ∧ fe1 S e ≠ -1 ∧ bitW (R (fe1 S e).toNatClampNeg) s = true := by
  unfold mChk mCome at h
  simp only [Bool.and_eq_true, decide_eq_true_eq] at h
  exact ⟨decide_eq_true h.1.1.1.1, h.1.1.1.2, h.1.1.2⟩
theorem agF_of {S : jS} {n nr nc nk m e : Nat} {A A' : Nat → Int} (hT : Told S n nr nc nk) (hP : PT S n nr) (he : e < n) (hm : ∀ a, fe1 S e = nI a → a < 16 → a < m) (h : agA S m A A') : agF S n e A A' := by
  intro s hs hb
  have hn := hT.1.2
  have hc := chk_come (chk_bit hT hP hs he hb)
  obtain ⟨a, ha, hfe⟩ := (hT.2.2.2.2.2.1 e he).2.1.resolve_left hc.2.1
  have ham := hm a hfe (by omega)
  have hw := hc.2.2
  rw [hfe, nI_clamp (by omega)] at hw ⊢
  exact ⟨h s a 0 (by omega) ham (by decide) hw, h s a 1 (by omega) ham (by decide) hw⟩
theorem agT_k {S : jS} {n m : Nat} {K K' : Nat → Prop} {t t' : TT} (h : agT S n m K t t') (hk : ∀ x, x < n → K' x → K x) : agT S n m K' t t' := ⟨h.1, fun e he hK => h.2.1 e he (hk e he hK), h.2.2⟩
theorem mArr_ag {S : jS} {n nr nc nk m j kl ke : Nat} {p : Nat → Int} {K : Nat → Prop} {t t' : TT} (hT : Told S n nr nc nk) (hR : RF S n (sA S 39) n) (hm : m < n) (h : agT S n m K t t') (hB : ∀ i, i < m + 1 → t.2.2.2 i = t'.2.2.2 i) : agT S n (m + 1) K (mArr S j kl ke p m t) (mArr S j kl ke p m t') := by
  have hn := hT.1.2
  cases hs : stB S m with
  | true =>
    rw [mArr_s hs, mArr_s hs, hB m (by omega)]
    exact ⟨mDep_ag hR hn hm hs h.1, h.2.1, hB⟩
  | false =>
    cases hg : gaB S m with
    | true =>
      rw [mArr_g hs hg, mArr_g hs hg]
      exact ⟨mPass_ag hT hR hm hg hs h.1, h.2.1, hB⟩
    | false =>
      rw [mArr_n hs hg, mArr_n hs hg]
      refine ⟨fun s i f h1 h2 h3 hb => ?_, h.2.1, hB⟩
      by_cases him : i = m
      · subst him
        rcases (RF_bit hR h1 hn hm (by omega)).mp hb with ⟨q, _⟩ | ⟨_, q, _⟩
        · rw [hs] at q
          exact absurd q (by decide)
        · rw [hg] at q
          exact absurd q (by decide)
      · exact h.1 s i f h1 (by omega) h3 hb
theorem mStep_ag {S : jS} {n nr nc nk m j kl ke : Nat} {p : Nat → Int} {K : Nat → Prop} {t t' : TT} (hT : Told S n nr nc nk) (hP : PT S n nr) (hm : m < n) (h : agT S n m K t t') : agT S n (m + 1) (fun x => K x ∨ (x = m ∧ kd S m = 7)) (mStep S j kl ke n p m t) (mStep S j kl ke n p m t') := by
  have hn := hT.1.2
  have hB : ∀ i, i < m + 1 → upZ t.2.2.2 m 0 i = upZ t'.2.2.2 m 0 i := fun i hi => upZ_c rfl (by
    by_cases him : i = m
    · exact Or.inl him
    · exact Or.inr (h.2.2 i (by omega)))
  have h1 : agT S n m K (t.1, t.2.1, t.2.2.1, upZ t.2.2.2 m 0) (t'.1, t'.2.1, t'.2.2.1, upZ t'.2.2.2 m 0) := ⟨h.1, h.2.1, fun i hi => hB i (by omega)⟩
  unfold mStep
  by_cases hk : kd S m = 7
  · rw [if_pos hk, if_pos hk]
    have hfe : ∀ a, fe1 S m = nI a → a < 16 → a < m := by
      intro a ha h16
      rcases (hT.2.2.2.2.2.1 m hm).2.2.1 (fun z => by rw [hk] at z; exact absurd z (by decide)) with q | ⟨b, hb1, hb2⟩
      · rw [ha] at q
        exact absurd q (nI_ne1 (by omega))
      · rw [ha] at hb2
        have := (nI_eq (by omega) (by omega)).mp hb2
        omega
    have hF : agF S n m t.1 t'.1 := agF_of hT hP hm hfe h.1
    have hs := mSettle_ag (t := (t.1, t.2.1, t.2.2.1, upZ t.2.2.2 m 0)) (t' := (t'.1, t'.2.1, t'.2.2.1, upZ t'.2.2.2 m 0)) (j := j) (kl := kl) (ke := ke) hn hm hF h1
    refine agT_k (mArr_ag hT hP.1 hm hs ?_) (fun x _ hx => hx.imp id (fun z => z.1))
    intro i hi
    by_cases him : i = m
    · subst him
      exact mSettle_b (t := (t.1, t.2.1, t.2.2.1, upZ t.2.2.2 i 0)) (t' := (t'.1, t'.2.1, t'.2.2.1, upZ t'.2.2.2 i 0)) hn hm hF (hB i (by omega))
    · exact hs.2.2 i (by omega)
  · rw [if_neg hk, if_neg hk]
    exact agT_k (mArr_ag hT hP.1 hm h1 hB) (fun x _ hx => hx.elim id (fun z => absurd z.2 hk))
theorem mRk1_ag {S : jS} {n nr nc nk j kl ke : Nat} {p : Nat → Int} {t t' : TT} (hT : Told S n nr nc nk) (hP : PT S n nr) : ∀ m, m ≤ n → agT S n m (fun x => x < m ∧ kd S x = 7) (mRk1 S j kl ke n p t m) (mRk1 S j kl ke n p t' m)
  | 0, _ => ⟨fun _ _ _ _ h => absurd h (by omega), fun _ _ h => absurd h.1 (by omega), fun _ h => absurd h (by omega)⟩
  | m + 1, h => agT_k (mStep_ag hT hP (by omega) (mRk1_ag hT hP m (by omega))) (fun x _ hx => by
      by_cases hxm : x = m
      · subst hxm
        exact Or.inr ⟨rfl, hx.2⟩
      · exact Or.inl ⟨by omega, hx.2⟩)
theorem mRk2_ag {S : jS} {n nr nc nk j kl ke : Nat} {t t' : TT} (hT : Told S n nr nc nk) (hP : PT S n nr) (h0 : agT S n n (fun x => kd S x = 7) t t') : ∀ m, m ≤ n → agT S n n (fun x => kd S x = 7 ∨ (x < m ∧ (kd S x = 6 ∨ kd S x = 8))) (mRk2 S j kl ke n t m) (mRk2 S j kl ke n t' m)
  | 0, _ => agT_k h0 (fun x _ hx => hx.elim id (fun z => absurd z.1 (by omega)))
  | m + 1, h => by
    have hn := hT.1.2
    have ih := mRk2_ag (j := j) (kl := kl) (ke := ke) hT hP h0 m (by omega)
    show agT S n n _ (mSt2 S j kl ke n m (mRk2 S j kl ke n t m)) (mSt2 S j kl ke n m (mRk2 S j kl ke n t' m))
    by_cases hk : kd S m = 6 ∨ kd S m = 8
    · rw [mSt2_t hk, mSt2_t hk]
      have hF : agF S n m (mRk2 S j kl ke n t m).1 (mRk2 S j kl ke n t' m).1 := agF_of hT hP (by omega) (fun a ha h16 => by
        rcases (hT.2.2.2.2.2.1 m (by omega)).2.1 with q | ⟨b, hb1, hb2⟩
        · rw [ha] at q
          exact absurd q (nI_ne1 (by omega))
        · rw [ha] at hb2
          have := (nI_eq (by omega) (by omega)).mp hb2
          omega) ih.1
      refine agT_k (mSettle_ag (j := j) (kl := kl) (ke := ke) hn (by omega) hF ih) (fun x _ hx => ?_)
      rcases hx with hx | hx
      · exact Or.inl (Or.inl hx)
      · by_cases hxm : x = m
        · exact Or.inr hxm
        · exact Or.inl (Or.inr ⟨by omega, hx.2⟩)
    · rw [mSt2_f hk, mSt2_f hk]
      refine agT_k ih (fun x _ hx => ?_)
      rcases hx with hx | hx
      · exact Or.inl hx
      · by_cases hxm : x = m
        · subst hxm
          exact absurd hx.2 hk
        · exact Or.inr ⟨by omega, hx.2⟩
/-- reckon's answers do not hang on the tables before -/
theorem mRk_ag {S : jS} {n nr nc nk j kl ke : Nat} {p : Nat → Int} {t t' : TT} (hT : Told S n nr nc nk) (hP : PT S n nr) : agT S n n (fun x => kd S x = 6 ∨ kd S x = 7 ∨ kd S x = 8) (mRk S j kl ke n p t) (mRk S j kl ke n p t') :=
  agT_k (mRk2_ag hT hP (agT_k (mRk1_ag hT hP n (Nat.le_refl n)) (fun x h hx => ⟨h, hx⟩)) n (Nat.le_refl n)) (fun x h hx => hx.elim (fun z => Or.inr ⟨h, Or.inl z⟩) (fun z => z.elim Or.inl (fun z => Or.inr ⟨h, Or.inr z⟩)))
