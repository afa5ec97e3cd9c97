/-! The early is never later than the late -/
theorem srcS_mn {j c : Nat} {A : Nat → Int} {ok : Bool} {b : Int32} (hj : isLateT j = 0) (hc : ok = true → c < 2 ^ 31) : (ok = true → srcS j A ok c b ≠ -1 ∧ A (srcS j A ok c b).toNatClampNeg ≤ A c) ∧ (b ≠ -1 → srcS j A ok c b ≠ -1 ∧ A (srcS j A ok c b).toNatClampNeg ≤ A b.toNatClampNeg) := by
  unfold srcS
  by_cases hk : ok = true ∧ (b = -1 ∨ (if isLateT j = 0 then A c < A b.toNatClampNeg else A b.toNatClampNeg < A c))
  · rw [if_pos hk, nI_clamp (hc hk.1)]
    refine ⟨fun _ => ⟨nI_ne1 (hc hk.1), Int.le_refl _⟩, fun hb => ⟨nI_ne1 (hc hk.1), ?_⟩⟩
    rcases hk.2 with h | h
    · exact absurd h hb
    · rw [if_pos hj] at h
      omega
  · rw [if_neg hk]
    refine ⟨fun ho => ?_, fun hb => ⟨hb, Int.le_refl _⟩⟩
    have hb : b ≠ -1 := fun z => hk ⟨ho, Or.inl z⟩
    refine ⟨hb, ?_⟩
    have h : ¬ (if isLateT j = 0 then A c < A b.toNatClampNeg else A b.toNatClampNeg < A c) := fun z => hk ⟨ho, Or.inr z⟩
    rw [if_pos hj] at h
    omega
theorem srcS_mx {j c : Nat} {A : Nat → Int} {ok : Bool} {b : Int32} (hj : ¬ isLateT j = 0) (hc : ok = true → c < 2 ^ 31) : (ok = true → srcS j A ok c b ≠ -1 ∧ A c ≤ A (srcS j A ok c b).toNatClampNeg) ∧ (b ≠ -1 → srcS j A ok c b ≠ -1 ∧ A b.toNatClampNeg ≤ A (srcS j A ok c b).toNatClampNeg) := by
  unfold srcS
  by_cases hk : ok = true ∧ (b = -1 ∨ (if isLateT j = 0 then A c < A b.toNatClampNeg else A b.toNatClampNeg < A c))
  · rw [if_pos hk, nI_clamp (hc hk.1)]
    refine ⟨fun _ => ⟨nI_ne1 (hc hk.1), Int.le_refl _⟩, fun hb => ⟨nI_ne1 (hc hk.1), ?_⟩⟩
    rcases hk.2 with h | h
    · exact absurd h hb
    · rw [if_neg hj] at h
      omega
  · rw [if_neg hk]
    refine ⟨fun ho => ?_, fun hb => ⟨hb, Int.le_refl _⟩⟩
    have hb : b ≠ -1 := fun z => hk ⟨ho, Or.inl z⟩
    refine ⟨hb, ?_⟩
    have h : ¬ (if isLateT j = 0 then A c < A b.toNatClampNeg else A b.toNatClampNeg < A c) := fun z => hk ⟨ho, Or.inr z⟩
    rw [if_neg hj] at h
    omega
theorem mSrc_mn {S : jS} {j s i e : Nat} {A : Nat → Int} (hj : isLateT j = 0) (hi : i ≤ 16) (h1 : fB' (fe1 S i) i) (h2 : fB' (fe2 S i) i) : ∀ f, f ≤ 1 → (okC S s i e (fe1 S i) f = true → A (mSrc S j A s i e).toNatClampNeg ≤ A ((fe1 S i).toNatClampNeg * 2 + f)) ∧ (okC S s i e (fe2 S i) f = true → A (mSrc S j A s i e).toNatClampNeg ≤ A ((fe2 S i).toNatClampNeg * 2 + f)) := by
  have e1 := srcS_mn (j := j) (A := A) (c := (fe1 S i).toNatClampNeg * 2 + 0) (b := -1) hj (okC_l (S := S) (s := s) (i := i) (e := e) (f := 0) (by decide) hi h1)
  have e2 := srcS_mn (j := j) (A := A) (c := (fe1 S i).toNatClampNeg * 2 + 1) (b := (srcS j A (okC S s i e (fe1 S i) 0) ((fe1 S i).toNatClampNeg * 2 + 0) (-1))) hj (okC_l (S := S) (s := s) (i := i) (e := e) (f := 1) (by decide) hi h1)
  have e3 := srcS_mn (j := j) (A := A) (c := (fe2 S i).toNatClampNeg * 2 + 0) (b := (srcS j A (okC S s i e (fe1 S i) 1) ((fe1 S i).toNatClampNeg * 2 + 1) (srcS j A (okC S s i e (fe1 S i) 0) ((fe1 S i).toNatClampNeg * 2 + 0) (-1)))) hj (okC_l (S := S) (s := s) (i := i) (e := e) (f := 0) (by decide) hi h2)
  have e4 := srcS_mn (j := j) (A := A) (c := (fe2 S i).toNatClampNeg * 2 + 1) (b := (srcS j A (okC S s i e (fe2 S i) 0) ((fe2 S i).toNatClampNeg * 2 + 0) (srcS j A (okC S s i e (fe1 S i) 1) ((fe1 S i).toNatClampNeg * 2 + 1) (srcS j A (okC S s i e (fe1 S i) 0) ((fe1 S i).toNatClampNeg * 2 + 0) (-1))))) hj (okC_l (S := S) (s := s) (i := i) (e := e) (f := 1) (by decide) hi h2)
  unfold mSrc
  intro f hf
  rcases (show f = 0 ∨ f = 1 by omega) with rfl | rfl
  · refine ⟨fun hok => ?_, fun hok => ?_⟩
    · obtain ⟨n1, l1⟩ := e1.1 hok
      obtain ⟨n2, l2⟩ := e2.2 n1
      obtain ⟨n3, l3⟩ := e3.2 n2
      obtain ⟨n4, l4⟩ := e4.2 n3
      exact (Int.le_trans l4 (Int.le_trans l3 (Int.le_trans l2 l1)))
    · obtain ⟨n3, l3⟩ := e3.1 hok
      obtain ⟨n4, l4⟩ := e4.2 n3
      exact (Int.le_trans l4 l3)
  · refine ⟨fun hok => ?_, fun hok => ?_⟩
    · obtain ⟨n2, l2⟩ := e2.1 hok
      obtain ⟨n3, l3⟩ := e3.2 n2
      obtain ⟨n4, l4⟩ := e4.2 n3
      exact (Int.le_trans l4 (Int.le_trans l3 l2))
    · obtain ⟨n4, l4⟩ := e4.1 hok
      exact l4
theorem mSrc_mx {S : jS} {j s i e : Nat} {A : Nat → Int} (hj : ¬ isLateT j = 0) (hi : i ≤ 16) (h1 : fB' (fe1 S i) i) (h2 : fB' (fe2 S i) i) : ∀ f, f ≤ 1 → (okC S s i e (fe1 S i) f = true → A ((fe1 S i).toNatClampNeg * 2 + f) ≤ A (mSrc S j A s i e).toNatClampNeg) ∧ (okC S s i e (fe2 S i) f = true → A ((fe2 S i).toNatClampNeg * 2 + f) ≤ A (mSrc S j A s i e).toNatClampNeg) := by
  have e1 := srcS_mx (j := j) (A := A) (c := (fe1 S i).toNatClampNeg * 2 + 0) (b := -1) hj (okC_l (S := S) (s := s) (i := i) (e := e) (f := 0) (by decide) hi h1)
  have e2 := srcS_mx (j := j) (A := A) (c := (fe1 S i).toNatClampNeg * 2 + 1) (b := (srcS j A (okC S s i e (fe1 S i) 0) ((fe1 S i).toNatClampNeg * 2 + 0) (-1))) hj (okC_l (S := S) (s := s) (i := i) (e := e) (f := 1) (by decide) hi h1)
  have e3 := srcS_mx (j := j) (A := A) (c := (fe2 S i).toNatClampNeg * 2 + 0) (b := (srcS j A (okC S s i e (fe1 S i) 1) ((fe1 S i).toNatClampNeg * 2 + 1) (srcS j A (okC S s i e (fe1 S i) 0) ((fe1 S i).toNatClampNeg * 2 + 0) (-1)))) hj (okC_l (S := S) (s := s) (i := i) (e := e) (f := 0) (by decide) hi h2)
  have e4 := srcS_mx (j := j) (A := A) (c := (fe2 S i).toNatClampNeg * 2 + 1) (b := (srcS j A (okC S s i e (fe2 S i) 0) ((fe2 S i).toNatClampNeg * 2 + 0) (srcS j A (okC S s i e (fe1 S i) 1) ((fe1 S i).toNatClampNeg * 2 + 1) (srcS j A (okC S s i e (fe1 S i) 0) ((fe1 S i).toNatClampNeg * 2 + 0) (-1))))) hj (okC_l (S := S) (s := s) (i := i) (e := e) (f := 1) (by decide) hi h2)
  unfold mSrc
  intro f hf
  rcases (show f = 0 ∨ f = 1 by omega) with rfl | rfl
  · refine ⟨fun hok => ?_, fun hok => ?_⟩
    · obtain ⟨n1, l1⟩ := e1.1 hok
      obtain ⟨n2, l2⟩ := e2.2 n1
      obtain ⟨n3, l3⟩ := e3.2 n2
      obtain ⟨n4, l4⟩ := e4.2 n3
      exact (Int.le_trans l1 (Int.le_trans l2 (Int.le_trans l3 l4)))
    · obtain ⟨n3, l3⟩ := e3.1 hok
      obtain ⟨n4, l4⟩ := e4.2 n3
      exact (Int.le_trans l3 l4)
  · refine ⟨fun hok => ?_, fun hok => ?_⟩
    · obtain ⟨n2, l2⟩ := e2.1 hok
      obtain ⟨n3, l3⟩ := e3.2 n2
      obtain ⟨n4, l4⟩ := e4.2 n3
      exact (Int.le_trans l2 (Int.le_trans l3 l4))
    · obtain ⟨n4, l4⟩ := e4.1 hok
      exact l4
/-- the arrivals of the first are none later than those of the second -/
def leA (S : jS) (m : Nat) (A A' : Nat → Int) : Prop := ∀ s i f, s < 16 → i < m → f ≤ 1 → bitW (sA S 39 i) s = true → A (s * 32 + i * 2 + f) ≤ A' (s * 32 + i * 2 + f)
theorem mDep_le {S : jS} {n m : Nat} {A A' : Nat → Int} {b b' d0 d0' d1 d1' : Int} (hR : RF S n (sA S 39) n) (hn : n ≤ 16) (hm : m < n) (hst : stB S m = true) (hb0 : b ≤ b') (hd0 : d0 ≤ d0') (hd1 : d1 ≤ d1') (h : leA S m A A') : leA S (m + 1) (mDep A m b d0 d1) (mDep A' m b' d0' d1') := by
  intro s i f hs hi hf hb
  by_cases him : i = m
  · subst him
    rcases (RF_bit hR hs hn hm (by omega)).mp hb with ⟨_, h1⟩ | ⟨h1, _⟩
    · subst h1
      unfold mDep upZ
      rcases (show f = 0 ∨ f = 1 by omega) with rfl | rfl
      · have q1 : ¬ (s * 32 + s * 2 + 0 = s * 32 + s * 2 + 1) := by omega
        have q2 : s * 32 + s * 2 + 0 = s * 32 + s * 2 + 0 := rfl
        rw [if_neg q1, if_neg q1, if_pos q2, if_pos q2]
        omega
      · have q2 : s * 32 + s * 2 + 1 = s * 32 + s * 2 + 1 := rfl
        rw [if_pos q2, if_pos q2]
        omega
    · rw [hst] at h1
      exact absurd h1 (by decide)
  · have := h s i f hs (by omega) hf hb
    unfold mDep upZ
    rw [if_neg (by omega), if_neg (by omega), if_neg (by omega), if_neg (by omega)]
    exact this
theorem mP1_le {S : jS} {n nr nc nk j j' q e : Nat} {d d' : Int} {A A' : Nat → Int} (hj : isLateT j = 0) (hj' : ¬ isLateT j' = 0) (hT : Told S n nr nc nk) (hR : RF S n (sA S 39) n) (hq : q < n) (he : e ≤ 1) (hg : gaB S q = true) (hst : stB S q = false) (hd : d ≤ d') {s : Nat} (hs : s < 16)
    (h : leA S q A A') : leA S q (mP1 S j q e d s A) (mP1 S j' q e d' s A') ∧ (bitW (sA S 39 q) s = true → mP1 S j q e d s A (s * 32 + q * 2 + e) ≤ mP1 S j' q e d' s A' (s * 32 + q * 2 + e)) ∧ (∀ x, x ≠ s * 32 + q * 2 + e → mP1 S j q e d s A x = A x) ∧ ∀ x, x ≠ s * 32 + q * 2 + e → mP1 S j' q e d' s A' x = A' x := by
  have hn := hT.1.2
  have hf := fe_told hT hq hg
  have hx : ∀ (j : Nat) (d : Int) (A : Nat → Int) x, x ≠ s * 32 + q * 2 + e → mP1 S j q e d s A x = A x := by
    intro j d A x hxx
    unfold mP1
    split
    · exact if_neg (by omega)
    · rfl
  refine ⟨?_, ?_, hx j d A, hx j' d' A'⟩
  · intro s1 i f hs1 hi hf1 hb
    rw [hx j d A _ (by omega), hx j' d' A' _ (by omega)]
    exact h s1 i f hs1 hi hf1 hb
  · intro hb
    have hne := mSrc_some (j := j) (A := fun c => A (s * 32 + c)) hT hR hs hq he hg hst hb
    have hne' := mSrc_some (j := j') (A := fun c => A' (s * 32 + c)) hT hR hs hq he hg hst hb
    obtain ⟨f, hf1, hf2⟩ := mkB_some S q e he
    have m1 := mSrc_mn (S := S) (s := s) (i := q) (e := e) (A := fun c => A (s * 32 + c)) hj (by omega) hf.1 hf.2 f hf1
    have m2 := mSrc_mx (S := S) (s := s) (i := q) (e := e) (A := fun c => A' (s * 32 + c)) hj' (by omega) hf.1 hf.2 f hf1
    have key : A (s * 32 + (mSrc S j (fun c => A (s * 32 + c)) s q e).toNatClampNeg) ≤ A' (s * 32 + (mSrc S j' (fun c => A' (s * 32 + c)) s q e).toNatClampNeg) := by
      rcases (RF_bit hR hs hn hq (by omega)).mp hb with ⟨h1, _⟩ | ⟨_, _, a, ha, h1, hw⟩
      · rw [hst] at h1
        exact absurd h1 (by decide)
      · have hok := okC_t (S := S) (i := q) (e := e) (f := f) (show a < 16 by omega) hw hf2
        have lt : ∀ v, fB' v q → v = nI a → a < q := by
          intro v hv hva
          rcases hv with h3 | ⟨b, hb1, hb2⟩
          · exact absurd (hva.symm.trans h3) (nI_ne1 (by omega))
          · have := nI_inj16 (by omega) (by omega) (hva.symm.trans hb2)
            omega
        rcases h1 with h1 | h1
        · have hm := h s a f hs (lt _ hf.1 h1) hf1 hw
          rw [h1] at m1 m2
          have u1 := m1.1 hok
          have u2 := m2.1 hok
          rw [nI_clamp (by omega)] at u1 u2
          rw [show s * 32 + a * 2 + f = s * 32 + (a * 2 + f) by omega] at hm
          exact Int.le_trans u1 (Int.le_trans hm u2)
        · have hm := h s a f hs (lt _ hf.2 h1) hf1 hw
          rw [h1] at m1 m2
          have u1 := m1.2 hok
          have u2 := m2.2 hok
          rw [nI_clamp (by omega)] at u1 u2
          rw [show s * 32 + a * 2 + f = s * 32 + (a * 2 + f) by omega] at hm
          exact Int.le_trans u1 (Int.le_trans hm u2)
    unfold mP1
    rw [if_pos ⟨hb, hne⟩, if_pos ⟨hb, hne'⟩]
    have q2 : s * 32 + q * 2 + e = s * 32 + (q * 2 + e) := by omega
    unfold upZ
    rw [if_pos q2, if_pos q2]
    omega
theorem mPs_le {S : jS} {n nr nc nk j j' q e : Nat} {d d' : Int} {A A' : Nat → Int} (hj : isLateT j = 0) (hj' : ¬ isLateT j' = 0) (hT : Told S n nr nc nk) (hR : RF S n (sA S 39) n) (hq : q < n) (he : e ≤ 1) (hg : gaB S q = true) (hst : stB S q = false) (hd : d ≤ d') (h : leA S q A A') : ∀ s, s ≤ q → leA S q (mPs S j q e d A s) (mPs S j' q e d' A' s) ∧ (∀ r, r < s → bitW (sA S 39 q) r = true → mPs S j q e d A s (r * 32 + q * 2 + e) ≤ mPs S j' q e d' A' s (r * 32 + q * 2 + e)) ∧ (∀ x, (∀ r, r < s → x ≠ r * 32 + q * 2 + e) → mPs S j q e d A s x = A x) ∧ ∀ x, (∀ r, r < s → x ≠ r * 32 + q * 2 + e) → mPs S j' q e d' A' s x = A' x
  | 0, _ => ⟨h, fun r hr => absurd hr (by omega), fun _ _ => rfl, fun _ _ => rfl⟩
  | s + 1, hsq => by
    have hn := hT.1.2
    have ih := mPs_le hj hj' hT hR hq he hg hst hd h s (by omega)
    have h1 := mP1_le hj hj' hT hR hq he hg hst hd (show s < 16 by omega) ih.1
    refine ⟨h1.1, ?_, ?_, ?_⟩
    · intro r hr hb
      by_cases hrs : r = s
      · subst hrs
        exact h1.2.1 hb
      · show mP1 S j q e d s (mPs S j q e d A s) _ ≤ mP1 S j' q e d' s (mPs S j' q e d' A' s) _
        rw [h1.2.2.1 _ (by omega), h1.2.2.2 _ (by omega)]
        exact ih.2.1 r (by omega) hb
    · intro x hx
      show mP1 S j q e d s (mPs S j q e d A s) x = _
      rw [h1.2.2.1 _ (hx s (by omega))]
      exact ih.2.2.1 x (fun r hr => hx r (by omega))
    · intro x hx
      show mP1 S j' q e d' s (mPs S j' q e d' A' s) x = _
      rw [h1.2.2.2 _ (hx s (by omega))]
      exact ih.2.2.2 x (fun r hr => hx r (by omega))
theorem mPass_le {S : jS} {n nr nc nk j j' q kl ke : Nat} {p : Int} {A A' : Nat → Int} (hj : isLateT j = 0) (hj' : ¬ isLateT j' = 0) (hT : Told S n nr nc nk) (hR : RF S n (sA S 39) n) (hq : q < n) (hg : gaB S q = true) (hst : stB S q = false) (hd : ∀ f, f ≤ 1 → mDl j kl ke p f ≤ mDl j' kl ke p f) (h : leA S q A A') : leA S (q + 1) (mPass S j q kl ke p A) (mPass S j' q kl ke p A') := by
  have hn := hT.1.2
  have p0 := mPs_le hj hj' hT hR hq (show 0 ≤ 1 by decide) hg hst (hd 0 (by decide)) h q (Nat.le_refl q)
  have p1 := mPs_le hj hj' hT hR hq (show 1 ≤ 1 by decide) hg hst (hd 1 (by decide)) p0.1 q (Nat.le_refl q)
  intro s i f hs hi hf hb
  by_cases hiq : i = q
  · subst hiq
    have hle : s < i := by
      have hsi := reach_le hT (Nat.le_refl n) hR (i + 1) i (by omega) hq s hs hb
      rcases (RF_bit hR hs hn hq (by omega)).mp hb with ⟨h1, _⟩ | ⟨_, _, a, ha, h1, hw⟩
      · rw [hst] at h1
        exact absurd h1 (by decide)
      · have hsa := reach_le hT (Nat.le_refl n) hR (a + 1) a (by omega) ha s hs hw
        have hfe := fe_told hT hq hg
        have lt : ∀ v, fB' v i → v = nI a → a < i := by
          intro v hv hva
          rcases hv with h3 | ⟨b, hb1, hb2⟩
          · exact absurd (hva.symm.trans h3) (nI_ne1 (by omega))
          · have := nI_inj16 (by omega) (by omega) (hva.symm.trans hb2)
            omega
        rcases h1 with h1 | h1
        · have := lt _ hfe.1 h1
          omega
        · have := lt _ hfe.2 h1
          omega
    unfold mPass
    rcases (show f = 0 ∨ f = 1 by omega) with rfl | rfl
    · rw [p1.2.2.1 _ (fun r _ => by omega), p1.2.2.2 _ (fun r _ => by omega)]
      exact p0.2.1 s hle hb
    · exact p1.2.1 s hle hb
  · exact p1.1 s i f hs (by omega) hf hb
theorem mDl_le {j j' kl ke : Nat} {p : Int} (hj : isLateT j = 0) (hj' : ¬ isLateT j' = 0) (hk : ke ≤ kl) (hp : 0 ≤ p) : ∀ f, f ≤ 1 → mDl j kl ke p f ≤ mDl j' kl ke p f := by
  intro f _
  unfold mDl
  rw [if_pos hj, if_neg hj']
  refine Int.mul_le_mul_of_nonneg_right (by omega) ?_
  split <;> omega
theorem mLk_0 {S : jS} {e : Nat} {Z : Nat → Int} : ∀ s, 0 ≤ mLk S e Z s
  | 0 => by unfold mLk; omega
  | s + 1 => by
    have ih := mLk_0 (S := S) (e := e) (Z := Z) s
    unfold mLk
    split <;> omega
theorem mBr_0 {S : jS} {n e : Nat} {Z : Nat → Int} : 0 ≤ mBr S n e Z ∧ mBr S n e Z ≤ 2048 * (per S (sV S e) : Nat) := by
  have := mLk_0 (S := S) (e := e) (Z := Z) n
  unfold mBr
  omega
theorem mSettle_1 {S : jS} {j kl ke n e : Nat} {t : TT} : (mSettle S j kl ke n e t).1 = t.1 := by
  unfold mSettle
  split <;> rfl
theorem mSettle_4 {S : jS} {j kl ke n e : Nat} {t : TT} : (∃ Z, (mSettle S j kl ke n e t).2.2.2 = upZ t.2.2.2 e (mBr S n e Z)) ∧ ¬ isLateT j = 0 ∧ kd S e = 7 ∨ (mSettle S j kl ke n e t).2.2.2 = t.2.2.2 := by
  unfold mSettle
  split
  · rename_i h
    exact Or.inl ⟨⟨_, rfl⟩, h⟩
  · exact Or.inr rfl
theorem mArr_4 {S : jS} {j kl ke m : Nat} {p : Nat → Int} {t : TT} : (mArr S j kl ke p m t).2 = t.2 := by
  unfold mArr
  split
  · rfl
  · split <;> rfl
/-- what a step makes of the borrows -/
theorem mStep_4 {S : jS} {j kl ke n m : Nat} {p : Nat → Int} {t : TT} : ∀ i, (i ≠ m → (mStep S j kl ke n p m t).2.2.2 i = t.2.2.2 i) ∧ (i = m → (mStep S j kl ke n p m t).2.2.2 i = 0 ∨ ¬ isLateT j = 0 ∧ ∃ Z, (mStep S j kl ke n p m t).2.2.2 i = mBr S n m Z) := by
  intro i
  unfold mStep
  rw [mArr_4]
  by_cases h7 : kd S m = 7
  · rw [if_pos h7]
    rcases mSettle_4 (S := S) (j := j) (kl := kl) (ke := ke) (n := n) (e := m) (t := (t.1, t.2.1, t.2.2.1, upZ t.2.2.2 m 0)) with ⟨⟨Z, h1⟩, h2, -⟩ | h1
    · rw [h1]
      refine ⟨fun hi => ?_, fun hi => Or.inr ⟨h2, Z, ?_⟩⟩
      · show (if i = m then _ else (if i = m then _ else _)) = _
        rw [if_neg hi, if_neg hi]
      · show (if i = m then _ else _) = _
        rw [if_pos hi]
    · rw [h1]
      refine ⟨fun hi => if_neg hi, fun hi => Or.inl (if_pos hi)⟩
  · rw [if_neg h7]
    exact ⟨fun hi => if_neg hi, fun hi => Or.inl (if_pos hi)⟩
theorem mStep_a {S : jS} {j kl ke n m : Nat} {p : Nat → Int} {t : TT} (h : stB S m = true) : (mStep S j kl ke n p m t).1 = mDep t.1 m ((mStep S j kl ke n p m t).2.2.2 m) (mDl j kl ke (p m) 0) (mDl j kl ke (p m) 1) := by
  have e := mArr_4 (S := S) (j := j) (kl := kl) (ke := ke) (m := m) (p := p) (t := if kd S m = 7 then mSettle S j kl ke n m (t.1, t.2.1, t.2.2.1, upZ t.2.2.2 m 0) else (t.1, t.2.1, t.2.2.1, upZ t.2.2.2 m 0))
  unfold mStep
  rw [e, mArr_s h]
  by_cases h7 : kd S m = 7
  · rw [if_pos h7]
    show mDep (mSettle S j kl ke n m _).1 _ _ _ _ = _
    rw [mSettle_1]
  · rw [if_neg h7]
theorem mStep_g {S : jS} {j kl ke n m : Nat} {p : Nat → Int} {t : TT} (h : stB S m = false) (h2 : gaB S m = true) : (mStep S j kl ke n p m t).1 = mPass S j m kl ke (p m) t.1 := by
  unfold mStep
  rw [mArr_g h h2]
  by_cases h7 : kd S m = 7
  · rw [if_pos h7]
    show mPass S j m kl ke (p m) (mSettle S j kl ke n m _).1 = _
    rw [mSettle_1]
  · rw [if_neg h7]
theorem mStep_o {S : jS} {j kl ke n m : Nat} {p : Nat → Int} {t : TT} (h : stB S m = false) (h2 : gaB S m = false) : (mStep S j kl ke n p m t).1 = t.1 := by
  unfold mStep mArr
  rw [if_neg (by rw [h]; decide), if_neg (by rw [h2]; decide)]
  by_cases h7 : kd S m = 7
  · rw [if_pos h7, mSettle_1]
  · rw [if_neg h7]
theorem mRk1_le {S : jS} {n nr nc nk j j' kl ke : Nat} {p : Nat → Int} {t t' : TT} (hj : isLateT j = 0) (hj' : ¬ isLateT j' = 0) (hT : Told S n nr nc nk) (hR : RF S n (sA S 39) n) (hk : ke ≤ kl) (hp : ∀ i, i < n → 0 ≤ p i) : ∀ m, m ≤ n → leA S m (mRk1 S j kl ke n p t m).1 (mRk1 S j' kl ke n p t' m).1
  | 0, _ => fun s i f _ hi => absurd hi (Nat.not_lt_zero i)
  | m + 1, hm => by
    have hn := hT.1.2
    have ih := mRk1_le (t := t) (t' := t') hj hj' hT hR hk hp m (by omega)
    have hd := mDl_le hj hj' hk (hp m (by omega))
    show leA S (m + 1) (mStep S j kl ke n p m (mRk1 S j kl ke n p t m)).1 (mStep S j' kl ke n p m (mRk1 S j' kl ke n p t' m)).1
    cases hst : stB S m with
    | true =>
      rw [mStep_a hst, mStep_a hst]
      refine mDep_le hR hn (by omega) hst ?_ (hd 0 (by decide)) (hd 1 (by decide)) ih
      have a1 := (mStep_4 (S := S) (j := j) (kl := kl) (ke := ke) (n := n) (p := p) (t := mRk1 S j kl ke n p t m) m).2 rfl
      have a2 := (mStep_4 (S := S) (j := j') (kl := kl) (ke := ke) (n := n) (p := p) (t := mRk1 S j' kl ke n p t' m) m).2 rfl
      rcases a1 with a1 | ⟨a1, -⟩
      · rw [a1]
        rcases a2 with a2 | ⟨-, Z, a2⟩
        · rw [a2]
          exact Int.le_refl _
        · rw [a2]
          exact mBr_0.1
      · exact absurd hj a1
    | false =>
      cases hg : gaB S m with
      | true =>
        rw [mStep_g hst hg, mStep_g hst hg]
        exact mPass_le hj hj' hT hR (by omega) hg hst hd ih
      | false =>
        rw [mStep_o hst hg, mStep_o hst hg]
        intro s i f hs hi hf hb
        by_cases him : i = m
        · subst him
          rcases (RF_bit hR hs hn (by omega) (by omega)).mp hb with ⟨h1, _⟩ | ⟨_, h1, _⟩
          · rw [hst] at h1
            exact absurd h1 (by decide)
          · rw [hg] at h1
            exact absurd h1 (by decide)
        · exact ih s i f hs (by omega) hf hb
theorem mRk2_1 {S : jS} {j kl ke n : Nat} {t : TT} : ∀ m, (mRk2 S j kl ke n t m).1 = t.1
  | 0 => rfl
  | m + 1 => by
    show (mSt2 S j kl ke n m (mRk2 S j kl ke n t m)).1 = _
    unfold mSt2
    split
    · rw [mSettle_1]
      exact mRk2_1 m
    · exact mRk2_1 m
theorem mRk_le {S : jS} {n nr nc nk j j' kl ke : Nat} {p : Nat → Int} {t t' : TT} (hj : isLateT j = 0) (hj' : ¬ isLateT j' = 0) (hT : Told S n nr nc nk) (hR : RF S n (sA S 39) n) (hk : ke ≤ kl) (hp : ∀ i, i < n → 0 ≤ p i) : leA S n (mRk S j kl ke n p t).1 (mRk S j' kl ke n p t').1 := by
  unfold mRk
  rw [mRk2_1, mRk2_1]
  exact mRk1_le hj hj' hT hR hk hp n (Nat.le_refl n)
/-- borrows are none, or what mBr says -/
theorem mRk1_br {S : jS} {j kl ke n : Nat} {p : Nat → Int} {t : TT} : ∀ m i, i < m → 0 ≤ (mRk1 S j kl ke n p t m).2.2.2 i ∧ (mRk1 S j kl ke n p t m).2.2.2 i ≤ 2048 * (per S (sV S i) : Nat)
  | 0, i, h => absurd h (Nat.not_lt_zero i)
  | m + 1, i, h => by
    show 0 ≤ (mStep S j kl ke n p m (mRk1 S j kl ke n p t m)).2.2.2 i ∧ (mStep S j kl ke n p m (mRk1 S j kl ke n p t m)).2.2.2 i ≤ _
    have a := mStep_4 (S := S) (j := j) (kl := kl) (ke := ke) (n := n) (m := m) (p := p) (t := mRk1 S j kl ke n p t m) i
    by_cases e : i = m
    · rcases a.2 e with a | ⟨-, Z, a⟩
      · rw [a]
        omega
      · rw [a, ← e]
        exact mBr_0
    · rw [a.1 e]
      exact mRk1_br m i (by omega)
theorem mRk2_br {S : jS} {j kl ke n : Nat} {t : TT} : ∀ m, (mRk2 S j kl ke n t m).2.2.2 = t.2.2.2
  | 0 => rfl
  | m + 1 => by
    show (mSt2 S j kl ke n m (mRk2 S j kl ke n t m)).2.2.2 = _
    unfold mSt2
    split
    · rename_i h
      rcases mSettle_4 (S := S) (j := j) (kl := kl) (ke := ke) (n := n) (e := m) (t := mRk2 S j kl ke n t m) with ⟨-, -, h7⟩ | h1
      · rcases h with h | h <;> rw [h] at h7 <;> exact absurd h7 (by decide)
      · rw [h1]
        exact mRk2_br m
    · exact mRk2_br m
theorem mRk_br {S : jS} {j kl ke n i : Nat} {p : Nat → Int} {t : TT} (h : i < n) : 0 ≤ (mRk S j kl ke n p t).2.2.2 i ∧ (mRk S j kl ke n p t).2.2.2 i ≤ 2048 * (per S (sV S i) : Nat) := by
  unfold mRk
  rw [mRk2_br]
  exact mRk1_br n i h
