/-! Paths: what the rows of reach and counts say -/
def rf (R : Nat → Int32) (n : Nat) (v : Int32) : Int32 := if 0 ≤ v ∧ v < nI n then R v.toNatClampNeg else 0
/-- a node's row of reach, out of those before it -/
def mR (S : jS) (n : Nat) (R : Nat → Int32) (m : Nat) : Int32 := if stB S m = true then 1 <<< (nI m &&& 31) else if gaB S m = true then (0 ||| rf R n (fe1 S m)) ||| rf R n (fe2 S m) else 0
/-- a feed, or none: below m -/
def fB' (v : Int32) (m : Nat) : Prop := v = -1 ∨ ∃ a, a < m ∧ v = nI a
theorem rf_c {R R' : Nat → Int32} {n m : Nat} {v : Int32} (hm : m ≤ 16) (hv : fB' v m) (h : ∀ i, i < m → R' i = R i) : rf R' n v = rf R n v := by
  unfold rf
  rcases hv with rfl | ⟨a, ha, rfl⟩
  · rw [if_neg (fun z => absurd z.1 (by decide)), if_neg (fun z => absurd z.1 (by decide))]
  · rw [nI_clamp (by omega), h a ha]
theorem mR_c {S : jS} {R R' : Nat → Int32} {n m : Nat} (hm : m ≤ 16) (h1 : gaB S m = true → fB' (fe1 S m) m ∧ fB' (fe2 S m) m) (h : ∀ i, i < m → R' i = R i) : mR S n R' m = mR S n R m := by
  unfold mR
  split
  · rfl
  · split
    · next hg => rw [rf_c hm (h1 hg).1 h, rf_c hm (h1 hg).2 h]
    · rfl
theorem or0 (x : Int32) : x ||| 0 = x := by simp
theorem sJoin_39 {S : jS} {n g : Nat} {v : Int32} : (sJoin S n g v).2.1 39 = upd (S.2.1 39) g (S.2.1 39 g ||| rf (S.2.1 39) n v) := by
  unfold sJoin rf
  by_cases h : 0 ≤ v ∧ v < nI n
  · rw [if_pos h, if_pos h]
    rfl
  · rw [if_neg h, if_neg h, or0]
    funext x
    unfold upd
    by_cases hx : x = g
    · rw [if_pos hx, hx]
    · rw [if_neg hx]
theorem upd_ne {f : Nat → Int32} {k i : Nat} {a : Int32} (h : i ≠ k) : upd f k a i = f i := if_neg h
theorem sN2_39 {X : jS} {n m : Nat} (hm : m < 16) (h1 : gaB X m = true → fB' (fe1 X m) m ∧ fB' (fe2 X m) m) : (sN2 X n m).2.1 39 = upd (X.2.1 39) m (mR X n (X.2.1 39) m) := by
  have hN : (sN1 X n m).2.1 39 = upd (X.2.1 39) m 0 := rfl
  unfold sN2 mR
  by_cases hs : stB X m = true
  · rw [if_pos hs, if_pos hs]
    show upd (upd (X.2.1 39) m 0) m _ = _
    exact upd_upd
  · rw [if_neg hs, if_neg hs]
    by_cases hg : gaB X m = true
    · rw [if_pos hg, if_pos hg, sJoin_39, sJoin_39, hN]
      have hf := h1 hg
      rw [rf_c (R := upd (upd (X.2.1 39) m 0) m (upd (X.2.1 39) m 0 m ||| rf (upd (X.2.1 39) m 0) n (fe1 X m))) (R' := X.2.1 39) (by omega) hf.2 (fun i hi => by rw [upd_ne (by omega), upd_ne (by omega)])] 
      rw [← rf_c (R := upd (X.2.1 39) m 0) (R' := X.2.1 39) (by omega) hf.1 (fun i hi => by rw [upd_ne (by omega)])]
      rw [upd_self, upd_self, upd_upd, upd_upd]
    · rw [if_neg hg, if_neg hg]
      exact hN
/-- the row of each node is what mR says -/
def RF (S : jS) (n : Nat) (R : Nat → Int32) (m : Nat) : Prop := ∀ i, i < m → R i = mR S n R i
theorem fe_told {S : jS} {n nr nc nk i : Nat} (hT : Told S n nr nc nk) (hi : i < n) : gaB S i = true → fB' (fe1 S i) i ∧ fB' (fe2 S i) i := fun h => fe_gate hT hi h
theorem mR_s {S S' : jS} (h : S'.1 = S.1) {n m : Nat} {R : Nat → Int32} : mR S' n R m = mR S n R m := by
  obtain ⟨a, b⟩ := S
  obtain ⟨a', b'⟩ := S'
  cases h
  rfl
theorem sPrep_RF {S : jS} {n nr nc nk : Nat} (hT : Told S n nr nc nk) : ∀ m, m ≤ n → RF S n ((sPrep S n m).2.1 39) m
  | 0, _ => fun i hi => absurd hi (by omega)
  | m + 1, h => by
    have hn := hT.1.2
    have ih := sPrep_RF hT m (by omega)
    have hc := sPrep_c S n m
    have hT' := Told_c hc.1 hc.2 hT
    have hs : (sPrep S n (m + 1)).2.1 39 = upd ((sPrep S n m).2.1 39) m (mR S n ((sPrep S n m).2.1 39) m) := by
      rw [← mR_s hc.1]
      exact sN2_39 (by omega) (fe_told hT' (by omega))
    intro i hi
    rw [hs]
    have hx : ∀ k, k < m → upd ((sPrep S n m).2.1 39) m (mR S n ((sPrep S n m).2.1 39) m) k = (sPrep S n m).2.1 39 k := fun k hk => upd_ne (by omega)
    by_cases him : i = m
    · subst him
      rw [upd_self]
      exact (mR_c (by omega) (fe_told hT (by omega)) hx).symm
    · rw [upd_ne him, ih i (by omega)]
      exact (mR_c (by omega) (fe_told hT (by omega)) (fun k hk => hx k (by omega))).symm
theorem rf_bit {R : Nat → Int32} {n s : Nat} {v : Int32} (hs : s < 16) (hn : n ≤ 16) : bitW (rf R n v) s = true ↔ ∃ a, a < n ∧ v = nI a ∧ bitW (R a) s = true := by
  unfold rf
  by_cases h : 0 ≤ v ∧ v < nI n
  · rw [if_pos h]
    obtain ⟨a, ha, rfl⟩ := nI_below h.1 h.2 (by omega)
    rw [nI_clamp (by omega)]
    constructor
    · intro hb
      exact ⟨a, ha, rfl, hb⟩
    · intro ⟨b, hb, he, hw⟩
      rw [(nI_eq (by omega) (by omega)).mp he]
      exact hw
  · rw [if_neg h, bitW_0 s hs]
    constructor
    · intro z
      exact absurd z (by decide)
    · intro ⟨a, ha, he, _⟩
      subst he
      exact absurd ⟨Int32.not_lt.mp (nI_pos (by omega)), nI_lt ha (by omega)⟩ h
/-- a start reaches a node: it is it, or it reaches one of a gate's feeds -/
theorem RF_bit {S : jS} {n m s i : Nat} {R : Nat → Int32} (hR : RF S n R m) (hs : s < 16) (hn : n ≤ 16) (him : i < m) (hi : i < 16) : bitW (R i) s = true ↔ (stB S i = true ∧ s = i) ∨ (stB S i = false ∧ gaB S i = true ∧ ∃ a, a < n ∧ (fe1 S i = nI a ∨ fe2 S i = nI a) ∧ bitW (R a) s = true) := by
  rw [hR i him]
  unfold mR
  cases h : stB S i with
  | true =>
    rw [if_pos rfl, bitW_one i hi s hs]
    simp
  | false =>
    rw [if_neg (by decide)]
    cases hg : gaB S i with
    | true =>
      rw [if_pos rfl, bitW_or _ _ hs, bitW_or _ _ hs, bitW_0 s hs, Bool.false_or, Bool.or_eq_true, rf_bit hs hn, rf_bit hs hn]
      constructor
      · rintro (⟨a, h1, h2, h3⟩ | ⟨a, h1, h2, h3⟩)
        · exact Or.inr ⟨rfl, rfl, a, h1, Or.inl h2, h3⟩
        · exact Or.inr ⟨rfl, rfl, a, h1, Or.inr h2, h3⟩
      · rintro (h | ⟨_, _, a, h1, h2 | h2, h3⟩)
        · exact absurd h.1 (by decide)
        · exact Or.inl ⟨a, h1, h2, h3⟩
        · exact Or.inr ⟨a, h1, h2, h3⟩
    | false =>
      rw [if_neg (by decide), bitW_0 s hs]
      simp
