/-! Paths: what the rows of reach and counts say -/
theorem nI_ne1 {a : Nat} (h : a < 2 ^ 31) : nI a ≠ -1 := fun z => by
  have := congrArg Int32.toInt z
  rw [nI_toInt h, show (-1 : Int32).toInt = -1 by decide] at this
  omega
def rf (R : Nat → Int32) (n : Nat) (v : Int32) : Int32 := if 0 ≤ v ∧ v < nI n then R v.toNatClampNeg else 0
/-- a node's row of reach, out of those before it -/
def mR (S : jS) (n : Nat) (R : Nat → Int32) (m : Nat) : Int32 := if stB S m = true then 1 <<< (nI m &&& 31) else if gaB S m = true then (0 ||| rf R n (fe1 S m)) ||| rf R n (fe2 S m) else 0
/-- a feed, or none: below m -/
def fB' (v : Int32) (m : Nat) : Prop := v = -1 ∨ ∃ a, a < m ∧ v = nI a
theorem rf_c {R R' : Nat → Int32} {n m : Nat} {v : Int32} (hm : m ≤ 16) (hv : fB' v m) (h : ∀ i, i < m → R' i = R i) : rf R' n v = rf R n v := by
  unfold rf
  rcases hv with rfl | ⟨a, ha, rfl⟩
  · rw [if_neg (fun z => absurd z.1 (by decide)), if_neg (fun z => absurd z.1 (by decide))]
  · rw [nI_clamp (by omega), h a ha]
theorem mR_c {S : jS} {R R' : Nat → Int32} {n m : Nat} (hm : m ≤ 16) (h1 : gaB S m = true → fB' (fe1 S m) m ∧ fB' (fe2 S m) m) (h : ∀ i, i < m → R' i = R i) : mR S n R' m = mR S n R m := by
  unfold mR
  split
  · rfl
  · split
    · next hg => rw [rf_c hm (h1 hg).1 h, rf_c hm (h1 hg).2 h]
    · rfl
theorem or0 (x : Int32) : x ||| 0 = x := by simp
theorem sJoin_39 {S : jS} {n g : Nat} {v : Int32} : (sJoin S n g v).2.1 39 = upd (S.2.1 39) g (S.2.1 39 g ||| rf (S.2.1 39) n v) := by
  unfold sJoin rf
  by_cases h : 0 ≤ v ∧ v < nI n
  · rw [if_pos h, if_pos h]
    rfl
  · rw [if_neg h, if_neg h, or0]
    funext x
    unfold upd
    by_cases hx : x = g
    · rw [if_pos hx, hx]
    · rw [if_neg hx]
theorem upd_ne {f : Nat → Int32} {k i : Nat} {a : Int32} (h : i ≠ k) : upd f k a i = f i := if_neg h
theorem sN2_39 {X : jS} {n m : Nat} (hm : m < 16) (h1 : gaB X m = true → fB' (fe1 X m) m ∧ fB' (fe2 X m) m) : (sN2 X n m).2.1 39 = upd (X.2.1 39) m (mR X n (X.2.1 39) m) := by
  have hN : (sN1 X n m).2.1 39 = upd (X.2.1 39) m 0 := rfl
  unfold sN2 mR
  by_cases hs : stB X m = true
  · rw [if_pos hs, if_pos hs]
    show upd (upd (X.2.1 39) m 0) m _ = _
    exact upd_upd
  · rw [if_neg hs, if_neg hs]
    by_cases hg : gaB X m = true
    · rw [if_pos hg, if_pos hg, sJoin_39, sJoin_39, hN]
      have hf := h1 hg
      rw [rf_c (R := upd (upd (X.2.1 39) m 0) m (upd (X.2.1 39) m 0 m ||| rf (upd (X.2.1 39) m 0) n (fe1 X m))) (R' := X.2.1 39) (by omega) hf.2 (fun i hi => by rw [upd_ne (by omega), upd_ne (by omega)])] 
      rw [← rf_c (R := upd (X.2.1 39) m 0) (R' := X.2.1 39) (by omega) hf.1 (fun i hi => by rw [upd_ne (by omega)])]
      rw [upd_self, upd_self, upd_upd, upd_upd]
    · rw [if_neg hg, if_neg hg]
      exact hN
/-- the row of each node is what mR says -/
def RF (S : jS) (n : Nat) (R : Nat → Int32) (m : Nat) : Prop := ∀ i, i < m → R i = mR S n R i
theorem fe_told {S : jS} {n nr nc nk i : Nat} (hT : Told S n nr nc nk) (hi : i < n) : gaB S i = true → fB' (fe1 S i) i ∧ fB' (fe2 S i) i := fun h => fe_gate hT hi h
theorem mR_s {S S' : jS} (h : S'.1 = S.1) {n m : Nat} {R : Nat → Int32} : mR S' n R m = mR S n R m := by
  obtain ⟨a, b⟩ := S
  obtain ⟨a', b'⟩ := S'
  cases h
  rfl
theorem sPrep_RF {S : jS} {n nr nc nk : Nat} (hT : Told S n nr nc nk) : ∀ m, m ≤ n → RF S n ((sPrep S n m).2.1 39) m
  | 0, _ => fun i hi => absurd hi (by omega)
  | m + 1, h => by
    have hn := hT.1.2
    have ih := sPrep_RF hT m (by omega)
    have hc := sPrep_c S n m
    have hT' := Told_c hc.1 hc.2 hT
    have hs : (sPrep S n (m + 1)).2.1 39 = upd ((sPrep S n m).2.1 39) m (mR S n ((sPrep S n m).2.1 39) m) := by
      rw [← mR_s hc.1]
      exact sN2_39 (by omega) (fe_told hT' (by omega))
    intro i hi
    rw [hs]
    have hx : ∀ k, k < m → upd ((sPrep S n m).2.1 39) m (mR S n ((sPrep S n m).2.1 39) m) k = (sPrep S n m).2.1 39 k := fun k hk => upd_ne (by omega)
    by_cases him : i = m
    · subst him
      rw [upd_self]
      exact (mR_c (by omega) (fe_told hT (by omega)) hx).symm
    · rw [upd_ne him, ih i (by omega)]
      exact (mR_c (by omega) (fe_told hT (by omega)) (fun k hk => hx k (by omega))).symm
theorem rf_bit {R : Nat → Int32} {n s : Nat} {v : Int32} (hs : s < 16) (hn : n ≤ 16) : bitW (rf R n v) s = true ↔ ∃ a, a < n ∧ v = nI a ∧ bitW (R a) s = true := by
  unfold rf
  by_cases h : 0 ≤ v ∧ v < nI n
  · rw [if_pos h]
    obtain ⟨a, ha, rfl⟩ := nI_below h.1 h.2 (by omega)
    rw [nI_clamp (by omega)]
    constructor
    · intro hb
      exact ⟨a, ha, rfl, hb⟩
    · intro ⟨b, hb, he, hw⟩
      rw [(nI_eq (by omega) (by omega)).mp he]
      exact hw
  · rw [if_neg h, bitW_0 s hs]
    constructor
    · intro z
      exact absurd z (by decide)
    · intro ⟨a, ha, he, _⟩
      subst he
      exact absurd ⟨Int32.not_lt.mp (nI_pos (by omega)), nI_lt ha (by omega)⟩ h
/-- a start reaches a node: it is it, or it reaches one of a gate's feeds -/
theorem RF_bit {S : jS} {n m s i : Nat} {R : Nat → Int32} (hR : RF S n R m) (hs : s < 16) (hn : n ≤ 16) (him : i < m) (hi : i < 16) : bitW (R i) s = true ↔ (stB S i = true ∧ s = i) ∨ (stB S i = false ∧ gaB S i = true ∧ ∃ a, a < n ∧ (fe1 S i = nI a ∨ fe2 S i = nI a) ∧ bitW (R a) s = true) := by
  rw [hR i him]
  unfold mR
  cases h : stB S i with
  | true =>
    rw [if_pos rfl, bitW_one i hi s hs]
    simp
  | false =>
    rw [if_neg (by decide)]
    cases hg : gaB S i with
    | true =>
      rw [if_pos rfl, bitW_or _ _ hs, bitW_or _ _ hs, bitW_0 s hs, Bool.false_or, Bool.or_eq_true, rf_bit hs hn, rf_bit hs hn]
      constructor
      · rintro (⟨a, h1, h2, h3⟩ | ⟨a, h1, h2, h3⟩)
        · exact Or.inr ⟨rfl, rfl, a, h1, Or.inl h2, h3⟩
        · exact Or.inr ⟨rfl, rfl, a, h1, Or.inr h2, h3⟩
      · rintro (h | ⟨_, _, a, h1, h2 | h2, h3⟩)
        · exact absurd h.1 (by decide)
        · exact Or.inl ⟨a, h1, h2, h3⟩
        · exact Or.inr ⟨a, h1, h2, h3⟩
    | false =>
      rw [if_neg (by decide), bitW_0 s hs]
      simp
/-- a start is not behind what it reaches -/
theorem reach_le {S : jS} {n nr nc nk m : Nat} {R : Nat → Int32} (hT : Told S n nr nc nk) (hm : m ≤ n) (hR : RF S n R m) : ∀ k i, i < k → i < m → ∀ s, s < 16 → bitW (R i) s = true → s ≤ i
  | 0, _, h, _ => absurd h (by omega)
  | k + 1, i, h, him => by
    intro s hs hb
    have hn := hT.1.2
    rcases (RF_bit hR hs hn him (by omega)).mp hb with ⟨_, h1⟩ | ⟨_, hg, a, ha, hf, hw⟩
    · omega
    · have hfe := fe_told hT (show i < n by omega) hg
      have hai : a < i := by
        rcases hf with hf | hf
        · rcases hfe.1 with h1 | ⟨b, hb1, hb2⟩
          · rw [hf] at h1
            exact absurd h1 (nI_ne1 (by omega))
          · rw [hf] at hb2
            have := (nI_eq (by omega) (by omega)).mp hb2
            omega
        · rcases hfe.2 with h1 | ⟨b, hb1, hb2⟩
          · rw [hf] at h1
            exact absurd h1 (nI_ne1 (by omega))
          · rw [hf] at hb2
            have := (nI_eq (by omega) (by omega)).mp hb2
            omega
      have := reach_le hT hm hR k a (by omega) (by omega) s hs hw
      omega
theorem sJoin_41 {S : jS} {n g x : Nat} {v : Int32} (h : x % 16 ≠ g) : (sJoin S n g v).2.1 41 x = S.2.1 41 x := by
  unfold sJoin
  by_cases hv : 0 ≤ v ∧ v < nI n
  · rw [if_pos hv]
    show jC (S.2.1 41) g _ _ x = _
    exact if_neg (fun z => h z.1)
  · rw [if_neg hv]
/-- a gate's count of a start, with those of one feed -/
theorem join_at {S : jS} {n g s k0 : Nat} {v : Int32} {R : Nat → Int32} (hs : s < n) (hn : n ≤ 16) (hg : g < n) (hv : fB' v g) (hC : ∀ a, a < g → ∃ k : Nat, k ≤ 2 ^ a ∧ S.2.1 41 (s * 16 + a) = nI k ∧ (1 ≤ k ↔ bitW (R a) s = true)) (hle : ∀ a, a < g → bitW (R a) s = true → s ≤ a) (h0 : S.2.1 41 (s * 16 + g) = nI k0) : ∃ kv : Nat, kv ≤ 2 ^ (g - 1) ∧ (sJoin S n g v).2.1 41 (s * 16 + g) = nI (k0 + kv) ∧ (1 ≤ kv ↔ bitW (rf R n v) s = true) := by
  rcases hv with rfl | ⟨a, ha, rfl⟩
  · refine ⟨0, Nat.zero_le _, ?_, ?_⟩
    · unfold sJoin
      rw [if_neg (fun z => absurd z.1 (by decide))]
      exact h0
    · rw [rf_bit (by omega) hn]
      constructor
      · intro z
        omega
      · intro ⟨b, hb, he, _⟩
        exact absurd he.symm (nI_ne1 (by omega))
  · obtain ⟨k, hk1, hk2, hk3⟩ := hC a ha
    have hr : bitW (rf R n (nI a)) s = true ↔ bitW (R a) s = true := by
      rw [rf_bit (by omega) hn]
      constructor
      · intro ⟨b, hb, he, hw⟩
        rw [(nI_eq (by omega) (by omega)).mp he]
        exact hw
      · intro hw
        exact ⟨a, by omega, rfl, hw⟩
    have hpos : 0 ≤ nI a ∧ nI a < nI n := ⟨Int32.not_lt.mp (nI_pos (by omega)), nI_lt (by omega) (by omega)⟩
    have hpow : 2 ^ a ≤ 2 ^ (g - 1) := Nat.pow_le_pow_right (by decide) (by omega)
    have hj : (sJoin S n g (nI a)).2.1 41 (s * 16 + g) = if (s * 16 + g) % 16 = g ∧ (s * 16 + g) / 16 < a + 1 then S.2.1 41 (s * 16 + g) + S.2.1 41 ((s * 16 + g) / 16 * 16 + a) else S.2.1 41 (s * 16 + g) := by
      unfold sJoin
      rw [if_pos hpos, nI_clamp (by omega)]
      rfl
    rw [hj, show (s * 16 + g) / 16 = s by omega, h0, hk2, nI_add]
    by_cases hsa : s < a + 1
    · rw [if_pos ⟨by omega, hsa⟩]
      exact ⟨k, by omega, rfl, hk3.trans hr.symm⟩
    · rw [if_neg (fun z => hsa z.2)]
      refine ⟨0, Nat.zero_le _, rfl, ?_⟩
      rw [hr]
      constructor
      · intro z
        omega
      · intro hw
        have := hle a ha hw
        omega
/-- the counts fit, and are above 0 where a start reaches -/
def CB (n : Nat) (R C : Nat → Int32) (m : Nat) : Prop := ∀ i, i < m → ∀ s, s < n → ∃ k : Nat, k ≤ 2 ^ i ∧ C (s * 16 + i) = nI k ∧ (1 ≤ k ↔ bitW (R i) s = true)
theorem sPrep_CB {S : jS} {n nr nc nk : Nat} (hT : Told S n nr nc nk) : ∀ m, m ≤ n → CB n ((sPrep S n m).2.1 39) ((sPrep S n m).2.1 41) m
  | 0, _ => fun i hi => absurd hi (by omega)
  | m + 1, h => by
    have hn := hT.1.2
    have ih := sPrep_CB hT m (by omega)
    have hR := sPrep_RF hT m (by omega)
    have hc := sPrep_c S n m
    have hT' := Told_c hc.1 hc.2 hT
    have hgf := fe_told hT' (show m < n by omega)
    have hs : (sPrep S n (m + 1)).2.1 39 = upd ((sPrep S n m).2.1 39) m (mR (sPrep S n m) n ((sPrep S n m).2.1 39) m) := sN2_39 (by omega) hgf
    have hle : ∀ s, s < 16 → ∀ a, a < m → bitW ((sPrep S n m).2.1 39 a) s = true → s ≤ a := fun s hs a ha hw => reach_le hT (by omega) hR (a + 1) a (by omega) ha s hs hw
    intro i hi s hsn
    rw [hs]
    show ∃ k : Nat, k ≤ 2 ^ i ∧ (sN2 (sPrep S n m) n m).2.1 41 (s * 16 + i) = nI k ∧ _
    generalize hX : sPrep S n m = X at *
    by_cases him : i = m
    · subst him
      rw [upd_self]
      have hz : zC (X.2.1 41) i n (s * 16 + i) = 0 := if_pos ⟨by omega, by omega⟩
      have hzo : ∀ a, a < i → zC (X.2.1 41) i n (s * 16 + a) = X.2.1 41 (s * 16 + a) := fun a ha => if_neg (fun z => by omega)
      unfold sN2 mR
      cases hst : stB X i with
      | true =>
        rw [if_pos rfl, if_pos rfl, bitW_one i (by omega) s (by omega)]
        show ∃ k : Nat, k ≤ 2 ^ i ∧ upd (zC (X.2.1 41) i n) (i * 16 + i) 1 (s * 16 + i) = nI k ∧ _
        unfold upd
        by_cases hsi : s = i
        · subst hsi
          rw [if_pos rfl]
          exact ⟨1, Nat.one_le_two_pow, rfl, by simp⟩
        · rw [if_neg (by omega), hz]
          exact ⟨0, Nat.zero_le _, rfl, by simp [hsi]⟩
      | false =>
        rw [if_neg (show ¬ (false = true) by decide), if_neg (show ¬ (false = true) by decide)]
        cases hg : gaB X i with
        | true =>
          rw [if_pos (show true = true from rfl), if_pos (show true = true from rfl)]
          have hf := hgf hg
          obtain ⟨k1, a1, a2, a3⟩ := join_at (S := sN1 X n i) (n := n) (g := i) (s := s) (k0 := 0) (v := fe1 X i) (R := X.2.1 39) hsn hn (by omega) hf.1 (fun a ha => by
            show ∃ k : Nat, k ≤ 2 ^ a ∧ zC (X.2.1 41) i n (s * 16 + a) = nI k ∧ _
            rw [hzo a ha]
            exact ih a ha s hsn) (hle s (by omega)) hz
          obtain ⟨k2, b1, b2, b3⟩ := join_at (S := sJoin (sN1 X n i) n i (fe1 X i)) (n := n) (g := i) (s := s) (k0 := 0 + k1) (v := fe2 X i) (R := X.2.1 39) hsn hn (by omega) hf.2 (fun a ha => by
            rw [sJoin_41 (by omega)]
            show ∃ k : Nat, k ≤ 2 ^ a ∧ zC (X.2.1 41) i n (s * 16 + a) = nI k ∧ _
            rw [hzo a ha]
            exact ih a ha s hsn) (hle s (by omega)) a2
          rw [b2]
          refine ⟨0 + k1 + k2, ?_, rfl, ?_⟩
          · by_cases h0 : i = 0
            · subst h0
              have z1 : k1 = 0 := by
                rcases hf.1 with h1 | ⟨a, ha, _⟩
                · rcases Nat.eq_zero_or_pos k1 with z | z
                  · exact z
                  · have hq := a3.mp z
                    rw [rf_bit (by omega) hn] at hq
                    obtain ⟨c, hc1, hc2, _⟩ := hq
                    rw [h1] at hc2
                    exact absurd hc2.symm (nI_ne1 (by omega))
                · omega
              omega
            · have : 2 ^ i = 2 ^ (i - 1) + 2 ^ (i - 1) := by
                obtain ⟨q, rfl⟩ : ∃ q, i = q + 1 := ⟨i - 1, by omega⟩
                rw [Nat.pow_succ]
                simp
                omega
              omega
          · rw [bitW_or _ _ (by omega), bitW_or _ _ (by omega), bitW_0 s (by omega), Bool.false_or, Bool.or_eq_true, ← a3, ← b3]
            omega
        | false =>
          rw [if_neg (show ¬ (false = true) by decide), if_neg (show ¬ (false = true) by decide), bitW_0 s (by omega)]
          show ∃ k : Nat, k ≤ 2 ^ i ∧ zC (X.2.1 41) i n (s * 16 + i) = nI k ∧ _
          rw [hz]
          exact ⟨0, Nat.zero_le _, rfl, by simp⟩
    · rw [upd_ne him]
      have hun : (sN2 X n m).2.1 41 (s * 16 + i) = X.2.1 41 (s * 16 + i) := by
        have hzo : zC (X.2.1 41) m n (s * 16 + i) = X.2.1 41 (s * 16 + i) := if_neg (fun z => by omega)
        unfold sN2
        split
        · show upd (zC (X.2.1 41) m n) (m * 16 + m) 1 (s * 16 + i) = _
          rw [upd_ne (by omega), hzo]
        · split
          · rw [sJoin_41 (by omega), sJoin_41 (by omega)]
            exact hzo
          · exact hzo
      rw [hun]
      exact ih i (by omega) s hsn
