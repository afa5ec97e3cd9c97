/-! What timing says does not hang on what stood in its tables before -/
theorem srcS_c {j c : Nat} {A A' : Nat → Int} {ok : Bool} {b : Int32} (h1 : ok = true → A c = A' c) (h2 : b = -1 ∨ A b.toNatClampNeg = A' b.toNatClampNeg) : srcS j A ok c b = srcS j A' ok c b := by
  unfold srcS
  by_cases hk : ok = true
  · rcases h2 with h2 | h2
    · rw [if_pos ⟨hk, Or.inl h2⟩, if_pos ⟨hk, Or.inl h2⟩]
    · rw [h1 hk, h2]
  · rw [if_neg (fun z => hk z.1), if_neg (fun z => hk z.1)]
theorem srcS_e {j c : Nat} {A A' : Nat → Int} {ok : Bool} {b : Int32} (hc : ok = true → c < 2 ^ 31) (h1 : ok = true → A c = A' c) (h2 : b = -1 ∨ A b.toNatClampNeg = A' b.toNatClampNeg) : srcS j A ok c b = -1 ∨ A (srcS j A ok c b).toNatClampNeg = A' (srcS j A ok c b).toNatClampNeg := by
  unfold srcS
  by_cases hk : ok = true ∧ (b = -1 ∨ (if isLateT j = 0 then A c < A b.toNatClampNeg else A b.toNatClampNeg < A c))
  · rw [if_pos hk, nI_clamp (hc hk.1)]
    exact Or.inr (h1 hk.1)
  · rw [if_neg hk]
    exact h2
theorem srcS_n {j c : Nat} {A : Nat → Int} {ok : Bool} {b : Int32} (hc : ok = true → c < 2 ^ 31) (h : srcS j A ok c b = -1) : b = -1 ∧ ok = false := by
  unfold srcS at h
  by_cases hk : ok = true ∧ (b = -1 ∨ (if isLateT j = 0 then A c < A b.toNatClampNeg else A b.toNatClampNeg < A c))
  · rw [if_pos hk] at h
    exact absurd h (nI_ne1 (hc hk.1))
  · rw [if_neg hk] at h
    refine ⟨h, ?_⟩
    cases hok : ok
    · rfl
    · exact absurd ⟨hok, Or.inl h⟩ hk
theorem okC_l {S : jS} {s i e f q : Nat} {v : Int32} (hf : f ≤ 1) (hq : q ≤ 16) (hv : fB' v q) (h : okC S s i e v f = true) : v.toNatClampNeg * 2 + f < 2 ^ 31 := by
  have := okC_r hf hq hv h
  omega
theorem mSrc_c {S : jS} {j s i e : Nat} {A A' : Nat → Int} (hi : i ≤ 16) (h1 : fB' (fe1 S i) i) (h2 : fB' (fe2 S i) i) (h : ∀ v f, fB' v i → f ≤ 1 → okC S s i e v f = true → A (v.toNatClampNeg * 2 + f) = A' (v.toNatClampNeg * 2 + f)) : mSrc S j A s i e = mSrc S j A' s i e := by
  have e1 := srcS_e (j := j) (b := -1) (okC_l (S := S) (s := s) (i := i) (e := e) (f := 0) (by decide) hi h1) (h _ 0 h1 (by decide)) (Or.inl rfl)
  have e2 := srcS_e (j := j) (okC_l (S := S) (s := s) (i := i) (e := e) (f := 1) (by decide) hi h1) (h _ 1 h1 (by decide)) e1
  have e3 := srcS_e (j := j) (okC_l (S := S) (s := s) (i := i) (e := e) (f := 0) (by decide) hi h2) (h _ 0 h2 (by decide)) e2
  unfold mSrc
  rw [srcS_c (h _ 1 h2 (by decide)) e3, srcS_c (h _ 0 h2 (by decide)) e2, srcS_c (h _ 1 h1 (by decide)) e1, srcS_c (h _ 0 h1 (by decide)) (Or.inl rfl)]
theorem mSrc_n {S : jS} {j s i e : Nat} {A : Nat → Int} (hi : i ≤ 16) (h1 : fB' (fe1 S i) i) (h2 : fB' (fe2 S i) i) (h : mSrc S j A s i e = -1) : ∀ f, f ≤ 1 → okC S s i e (fe1 S i) f = false ∧ okC S s i e (fe2 S i) f = false := by
  unfold mSrc at h
  have n4 := srcS_n (okC_l (f := 1) (by decide) hi h2) h
  have n3 := srcS_n (okC_l (f := 0) (by decide) hi h2) n4.1
  have n2 := srcS_n (okC_l (f := 1) (by decide) hi h1) n3.1
  have n1 := srcS_n (okC_l (f := 0) (by decide) hi h1) n2.1
  intro f hf
  rcases (show f = 0 ∨ f = 1 by omega) with rfl | rfl
  · exact ⟨n1.2, n3.2⟩
  · exact ⟨n2.2, n4.2⟩
/-- some edge of a feed makes each edge of a gate -/
theorem mkB_some (S : jS) (i e : Nat) (he : e ≤ 1) : ∃ f, f ≤ 1 ∧ mkB S i f e = true := by
  unfold mkB
  by_cases h : kd S i = 2 ∨ kd S i = 4
  · refine ⟨1 - e, by omega, ?_⟩
    refine decide_eq_true (Or.inr ?_)
    rw [if_pos h]
    have : nI (1 - e) ≠ nI e := fun z => by
      have := (nI_eq (by omega) (by omega)).mp z
      omega
    exact this
  · refine ⟨e, he, ?_⟩
    refine decide_eq_true (Or.inr ?_)
    rw [if_neg h]
theorem okC_t {S : jS} {s i e f a : Nat} (ha : a < 16) (hb : bitW (sA S 39 a) s = true) (hm : mkB S i f e = true) : okC S s i e (nI a) f = true := by
  unfold okC
  rw [nI_clamp (by omega), bitR_W, hb, hm]
  simp [nI_ne1 (show a < 2 ^ 31 by omega)]
theorem okC_b {S : jS} {s i e f a : Nat} (ha : a < 16) (h : okC S s i e (nI a) f = true) : bitW (sA S 39 a) s = true := by
  unfold okC at h
  rw [nI_clamp (by omega), bitR_W] at h
  simp only [Bool.and_eq_true] at h
  exact h.1.2
/-- where a start reaches a gate there is a spot by which it comes -/
theorem mSrc_some {S : jS} {n nr nc nk j s i e : Nat} {A : Nat → Int} (hT : Told S n nr nc nk) (hR : RF S n (sA S 39) n) (hs : s < 16) (hi : i < n) (he : e ≤ 1) (hg : gaB S i = true) (hst : stB S i = false) (hb : bitW (sA S 39 i) s = true) : mSrc S j A s i e ≠ -1 := by
  have hn := hT.1.2
  have hf := fe_told hT hi hg
  intro h
  have hno := mSrc_n (by omega) hf.1 hf.2 h
  obtain ⟨f, hf1, hf2⟩ := mkB_some S i e he
  rcases (RF_bit hR hs hn hi (by omega)).mp hb with ⟨h1, _⟩ | ⟨_, _, a, ha, h1, hw⟩
  · rw [hst] at h1
    exact absurd h1 (by decide)
  · have hok := okC_t (S := S) (i := i) (e := e) (f := f) (show a < 16 by omega) hw hf2
    rcases h1 with h1 | h1
    · rw [← h1, (hno f hf1).1] at hok
      exact absurd hok (by decide)
    · rw [← h1, (hno f hf1).2] at hok
      exact absurd hok (by decide)
/-- arrivals agree below m -/
def agA (S : jS) (m : Nat) (A A' : Nat → Int) : Prop := ∀ s i f, s < 16 → i < m → f ≤ 1 → bitW (sA S 39 i) s = true → A (s * 32 + i * 2 + f) = A' (s * 32 + i * 2 + f)
theorem agA_u {S : jS} {m k : Nat} {A A' : Nat → Int} {v v' : Int} (h : agA S m A A') (hv : v = v') : agA S m (upZ A k v) (upZ A' k v') := by
  intro s i f hs hi hf hb
  unfold upZ
  by_cases hx : s * 32 + i * 2 + f = k
  · rw [if_pos hx, if_pos hx, hv]
  · rw [if_neg hx, if_neg hx]
    exact h s i f hs hi hf hb
theorem mDep_ag {S : jS} {n m : Nat} {A A' : Nat → Int} {b d0 d1 : Int} (hR : RF S n (sA S 39) n) (hn : n ≤ 16) (hm : m < n) (hst : stB S m = true) (h : agA S m A A') : agA S (m + 1) (mDep A m b d0 d1) (mDep A' m b d0 d1) := by
  intro s i f hs hi hf hb
  by_cases him : i = m
  · subst him
    rcases (RF_bit hR hs hn hm (by omega)).mp hb with ⟨_, h1⟩ | ⟨h1, _⟩
    · subst h1
      unfold mDep upZ
      rcases (show f = 0 ∨ f = 1 by omega) with rfl | rfl
      · have q1 : ¬ (s * 32 + s * 2 + 0 = s * 32 + s * 2 + 1) := by omega
        have q2 : s * 32 + s * 2 + 0 = s * 32 + s * 2 + 0 := rfl
        rw [if_neg q1, if_neg q1, if_pos q2, if_pos q2]
      · have q2 : s * 32 + s * 2 + 1 = s * 32 + s * 2 + 1 := rfl
        rw [if_pos q2, if_pos q2]
    · rw [hst] at h1
      exact absurd h1 (by decide)
  · exact agA_u (agA_u h rfl) rfl s i f hs (by omega) hf hb
/-- the arrivals at a gate -/
theorem mP1_ag {S : jS} {n nr nc nk j q e : Nat} {d : Int} {A A' : Nat → Int} (hT : Told S n nr nc nk) (hR : RF S n (sA S 39) n) (hq : q < n) (he : e ≤ 1) (hg : gaB S q = true) (hst : stB S q = false) {s : Nat} (hs : s < 16)
    (h : agA S q A A') : agA S q (mP1 S j q e d s A) (mP1 S j q e d s A') ∧ (bitW (sA S 39 q) s = true → mP1 S j q e d s A (s * 32 + q * 2 + e) = mP1 S j q e d s A' (s * 32 + q * 2 + e)) ∧ ∀ x, x ≠ s * 32 + q * 2 + e → mP1 S j q e d s A x = A x := by
  have hn := hT.1.2
  have hf := fe_told hT hq hg
  have hx0 : ∀ v f, fB' v q → f ≤ 1 → okC S s q e v f = true → A (s * 32 + (v.toNatClampNeg * 2 + f)) = A' (s * 32 + (v.toNatClampNeg * 2 + f)) := by
    intro v f hv hf1 hok
    rcases hv with rfl | ⟨a, ha, rfl⟩
    · unfold okC at hok
      simp at hok
    · have hb := okC_b (show a < 16 by omega) hok
      rw [nI_clamp (by omega)]
      have := h s a f hs ha hf1 hb
      rw [show s * 32 + (a * 2 + f) = s * 32 + a * 2 + f by omega]
      exact this
  have hsrc : mSrc S j (fun c => A (s * 32 + c)) s q e = mSrc S j (fun c => A' (s * 32 + c)) s q e := mSrc_c (by omega) hf.1 hf.2 hx0
  have hx : ∀ x, x ≠ s * 32 + q * 2 + e → mP1 S j q e d s A x = A x := by
    intro x hxx
    unfold mP1
    split
    · exact if_neg (by omega)
    · rfl
  refine ⟨?_, ?_, hx⟩
  · unfold mP1
    rw [← hsrc]
    by_cases hc : bitR (sA S 39) s q = true ∧ mSrc S j (fun c => A (s * 32 + c)) s q e ≠ -1
    · rw [if_pos hc, if_pos hc]
      intro s1 i f hs1 hi hf1 hb
      unfold upZ
      rw [if_neg (by omega), if_neg (by omega)]
      exact h s1 i f hs1 hi hf1 hb
    · rw [if_neg hc, if_neg hc]
      exact h
  · intro hb
    have hne := mSrc_some (j := j) (A := fun c => A (s * 32 + c)) hT hR hs hq he hg hst hb
    have hc : bitR (sA S 39) s q = true ∧ mSrc S j (fun c => A (s * 32 + c)) s q e ≠ -1 := ⟨hb, hne⟩
    have e0 := srcS_e (j := j) (A := fun c => A (s * 32 + c)) (A' := fun c => A' (s * 32 + c)) (b := -1) (okC_l (S := S) (s := s) (i := q) (e := e) (f := 0) (by decide) (by omega) hf.1) (hx0 _ 0 hf.1 (by decide)) (Or.inl rfl)
    have e1 := srcS_e (j := j) (A := fun c => A (s * 32 + c)) (A' := fun c => A' (s * 32 + c)) (okC_l (S := S) (s := s) (i := q) (e := e) (f := 1) (by decide) (by omega) hf.1) (hx0 _ 1 hf.1 (by decide)) e0
    have e2 := srcS_e (j := j) (A := fun c => A (s * 32 + c)) (A' := fun c => A' (s * 32 + c)) (okC_l (S := S) (s := s) (i := q) (e := e) (f := 0) (by decide) (by omega) hf.2) (hx0 _ 0 hf.2 (by decide)) e1
    have e3 := srcS_e (j := j) (A := fun c => A (s * 32 + c)) (A' := fun c => A' (s * 32 + c)) (okC_l (S := S) (s := s) (i := q) (e := e) (f := 1) (by decide) (by omega) hf.2) (hx0 _ 1 hf.2 (by decide)) e2
    have e4 : A (s * 32 + (mSrc S j (fun c => A (s * 32 + c)) s q e).toNatClampNeg) = A' (s * 32 + (mSrc S j (fun c => A (s * 32 + c)) s q e).toNatClampNeg) := e3.resolve_left hne
    unfold mP1
    rw [← hsrc, if_pos hc, if_pos hc, e4]
    have q2 : s * 32 + q * 2 + e = s * 32 + (q * 2 + e) := by omega
    unfold upZ
    rw [if_pos q2, if_pos q2]
theorem mPs_ag {S : jS} {n nr nc nk j q e : Nat} {d : Int} {A A' : Nat → Int} (hT : Told S n nr nc nk) (hR : RF S n (sA S 39) n) (hq : q < n) (he : e ≤ 1) (hg : gaB S q = true) (hst : stB S q = false) (h : agA S q A A') : ∀ s, s ≤ q → agA S q (mPs S j q e d A s) (mPs S j q e d A' s) ∧ (∀ r, r < s → bitW (sA S 39 q) r = true → mPs S j q e d A s (r * 32 + q * 2 + e) = mPs S j q e d A' s (r * 32 + q * 2 + e)) ∧ ∀ x, (∀ r, r < s → x ≠ r * 32 + q * 2 + e) → mPs S j q e d A s x = A x
  | 0, _ => ⟨h, fun r hr => absurd hr (by omega), fun _ _ => rfl⟩
  | s + 1, hsq => by
    have hn := hT.1.2
    have ih := mPs_ag (j := j) (d := d) hT hR hq he hg hst h s (by omega)
    have h1 := mP1_ag (j := j) (d := d) hT hR hq he hg hst (show s < 16 by omega) ih.1
    have h1' := mP1_ag (j := j) (d := d) (A := mPs S j q e d A' s) (A' := mPs S j q e d A' s) hT hR hq he hg hst (show s < 16 by omega) (fun _ _ _ _ _ _ _ => rfl)
    refine ⟨h1.1, ?_, ?_⟩
    · intro r hr hb
      by_cases hrs : r = s
      · subst hrs
        exact h1.2.1 hb
      · show mP1 S j q e d s (mPs S j q e d A s) _ = mP1 S j q e d s (mPs S j q e d A' s) _
        rw [h1.2.2 _ (by omega), h1'.2.2 _ (by omega)]
        exact ih.2.1 r (by omega) hb
    · intro x hx
      show mP1 S j q e d s (mPs S j q e d A s) x = _
      rw [h1.2.2 _ (hx s (by omega))]
      exact ih.2.2 x (fun r hr => hx r (by omega))
theorem mPass_ag {S : jS} {n nr nc nk j q kl ke : Nat} {p : Int} {A A' : Nat → Int} (hT : Told S n nr nc nk) (hR : RF S n (sA S 39) n) (hq : q < n) (hg : gaB S q = true) (hst : stB S q = false) (h : agA S q A A') : agA S (q + 1) (mPass S j q kl ke p A) (mPass S j q kl ke p A') := by
  have hn := hT.1.2
  have p0 := mPs_ag (j := j) (d := mDl j kl ke p 0) hT hR hq (show 0 ≤ 1 by decide) hg hst h q (Nat.le_refl q)
  have p1 := mPs_ag (j := j) (d := mDl j kl ke p 1) hT hR hq (show 1 ≤ 1 by decide) hg hst p0.1 q (Nat.le_refl q)
  have p1' := mPs_ag (j := j) (d := mDl j kl ke p 1) (A := mPs S j q 0 (mDl j kl ke p 0) A' q) (A' := mPs S j q 0 (mDl j kl ke p 0) A' q) hT hR hq (show 1 ≤ 1 by decide) hg hst (fun _ _ _ _ _ _ _ => rfl) q (Nat.le_refl q)
  intro s i f hs hi hf hb
  by_cases hiq : i = q
  · subst hiq
    have hle : s < i := by
      rcases (RF_bit hR hs hn hq (by omega)).mp hb with ⟨h1, _⟩ | ⟨_, _, a, ha, h1, hw⟩
      · rw [hst] at h1
        exact absurd h1 (by decide)
      · have hfe := fe_told hT hq hg
        have h2 := reach_le hT (Nat.le_refl n) hR (a + 1) a (by omega) ha s hs hw
        rcases h1 with h1 | h1
        · rcases hfe.1 with h3 | ⟨b, hb1, hb2⟩
          · rw [h1] at h3
            exact absurd h3 (nI_ne1 (by omega))
          · rw [h1] at hb2
            have := (nI_eq (by omega) (by omega)).mp hb2
            omega
        · rcases hfe.2 with h3 | ⟨b, hb1, hb2⟩
          · rw [h1] at h3
            exact absurd h3 (nI_ne1 (by omega))
          · rw [h1] at hb2
            have := (nI_eq (by omega) (by omega)).mp hb2
            omega
    rcases (show f = 0 ∨ f = 1 by omega) with rfl | rfl
    · unfold mPass
      rw [p1.2.2 _ (fun r hr => by omega), p1'.2.2 _ (fun r hr => by omega)]
      exact p0.2.1 s hle hb
    · exact p1.2.1 s hle hb
  · exact p1.1 s i f hs (by omega) hf hb
