/-! what is told, and what is reckoned of it: over the state's own numbers -/
abbrev kd (S : jS) (i : Nat) : Int32 := sI S (i + 13) 0
abbrev fe1 (S : jS) (i : Nat) : Int32 := sI S (i + 13) 1
abbrev fe2 (S : jS) (i : Nat) : Int32 := sI S (i + 13) 2
abbrev stB (S : jS) (i : Nat) : Bool := decide (sI S (i + 13) 0 = 0 ∨ sI S (i + 13) 0 = 6 ∨ sI S (i + 13) 0 = 7)
abbrev enB (S : jS) (i : Nat) : Bool := decide (sI S (i + 13) 0 = 6 ∨ sI S (i + 13) 0 = 7 ∨ sI S (i + 13) 0 = 8)
abbrev gaB (S : jS) (i : Nat) : Bool := decide (1 ≤ sI S (i + 13) 0 ∧ sI S (i + 13) 0 ≤ 5)
/-- n nodes, nr rules, nc corners, nk clocks are told, and well -/
def Told (S : jS) (n nr nc nk : Nat) : Prop :=
  (sI S 1 6 = nI n ∧ n ≤ 16) ∧ (sI S 1 7 = nI nr ∧ nr ≤ 6) ∧ (sI S 1 5 = nI nc ∧ 1 ≤ nc ∧ nc ≤ 3) ∧ (sI S 1 4 = nI nk ∧ nk ≤ 4) ∧ (∀ i, i < 16 → sV S i < 4) ∧
  (∀ i, i < n → (0 ≤ kd S i ∧ kd S i ≤ 8) ∧ (fe1 S i = -1 ∨ ∃ a, a < n ∧ fe1 S i = nI a) ∧ (kd S i ≠ 6 → fe1 S i = -1 ∨ ∃ a, a < i ∧ fe1 S i = nI a) ∧ (fe2 S i = -1 ∨ ∃ b, b < i ∧ fe2 S i = nI b)) ∧
  (∀ i, i < 16 → (sI S (i + 13) 5 = 1 ∨ sI S (i + 13) 5 = 2 ∨ sI S (i + 13) 5 = 4) ∧ (∃ w : Nat, w ≤ 80 ∧ sF S (i + 13) 6 = fv w) ∧ (∃ w : Nat, w ≤ 20 ∧ sI S (i + 13) 7 = nI w)) ∧
  (∀ v, v < 4 → (∃ w : Nat, w ≤ 160 ∧ sI S (v + 6) 0 = nI w) ∧ (∃ w : Nat, w ≤ 100 ∧ sI S (v + 6) 1 = nI w) ∧ (∃ w : Nat, w ≤ 20 ∧ sI S (v + 6) 2 = nI w)) ∧
  (∀ c, c < 3 → (∃ k : Nat, 8 ≤ k ∧ k ≤ 16 ∧ sD S (c + 10) 0 = dv (512 * k)) ∧ ∃ k : Nat, 1 ≤ k ∧ k ≤ 8 ∧ sD S (c + 10) 1 = dv (512 * k)) ∧
  (∀ k, k < 6 → sI S (k + 29) 0 = 0 ∨ ∃ m : Nat, 2 ≤ m ∧ m ≤ 4 ∧ sI S (k + 29) 0 = nI m)
/-- the told part alone -/
def tP (S : jS) : jS := (fun k f => if k < 35 then S.1 k f else 0, fun _ _ => 0, fun k f => if k < 13 then S.2.2.1 k f else 0, fun k f => if k < 35 then S.2.2.2.1 k f else 0, S.2.2.2.2)
theorem tP_A {S : jS} {k : Nat} {g : Nat → Int32} : tP (pA S k g) = tP S := rfl
theorem tP_I {S : jS} {k f : Nat} {v : Int32} (h : 35 ≤ k) : tP (pI S k f v) = tP S := by
  unfold tP pI
  congr 1
  funext a b
  by_cases h2 : a < 35
  · simp [h2, up2, show a ≠ k by omega]
  · simp [h2]
theorem tP_D {S : jS} {k : Nat} {g : Nat → UInt64} (h : 13 ≤ k) : tP (pD S k g) = tP S := by
  unfold tP pD
  congr 3
  funext a b
  by_cases h2 : a < 13
  · simp [h2, up1, show a ≠ k by omega]
  · simp [h2]
theorem tP_F {S : jS} {k : Nat} {g : Nat → UInt32} (h : 35 ≤ k) : tP (pF S k g) = tP S := by
  unfold tP pF
  congr 4
  funext a b
  by_cases h2 : a < 35
  · simp [h2, up1, show a ≠ k by omega]
  · simp [h2]
/-- bit s of the row's entry i -/
def bitR (R : Nat → Int32) (s i : Nat) : Bool := decide ((R i >>> (nI s &&& 31)) &&& 1 ≠ 0)
def mCome (S : jS) (R : Nat → Int32) (s e : Nat) : Bool := enB S e && decide (fe1 S e ≠ -1) && bitR R s (fe1 S e).toNatClampNeg
def mWeight (S : jS) (k : Nat) : Int32 := (if sI S (k + 29) 0 = 0 then 4 else 0) + (if sI S (k + 29) 1 = -1 then 0 else 2) + (if sI S (k + 29) 2 = -1 then 0 else 1)
def mFits (S : jS) (k : Nat) (s e : Int32) : Bool := decide ((sI S (k + 29) 1 = -1 ∨ sI S (k + 29) 1 = s) ∧ (sI S (k + 29) 2 = -1 ∨ sI S (k + 29) 2 = e))
/-- the winner among the first k rules, and its weight -/
def mWin (S : jS) (s e : Int32) : Nat → Int32 × Int32
  | 0 => (-1, 0)
  | k + 1 => if mFits S k s e = true ∧ ¬ mWeight S k < (mWin S s e k).2 then (nI k, mWeight S k) else mWin S s e k
theorem mWin_r (S : jS) (s e : Int32) : ∀ k, (mWin S s e k).1 = -1 ∨ ∃ i, i < k ∧ (mWin S s e k).1 = nI i
  | 0 => Or.inl rfl
  | k + 1 => by
    unfold mWin
    split
    · exact Or.inr ⟨k, by omega, rfl⟩
    · rcases mWin_r S s e k with h | ⟨i, h1, h2⟩
      · exact Or.inl h
      · exact Or.inr ⟨i, by omega, h2⟩
def mGrp (S : jS) (s e : Nat) : Bool := decide (sI S (sV S s + 6) 3 = sI S (sV S e + 6) 3)
/-- the sort that wins: 1 without one -/
def mSort (S : jS) (s e nr : Nat) : Int32 := if (mWin S (nI s) (nI e) nr).1 = -1 then 1 else sI S ((mWin S (nI s) (nI e) nr).1.toNatClampNeg + 29) 0
def mChk (S : jS) (R : Nat → Int32) (nr s e : Nat) : Bool := mCome S R s e && mGrp S s e && decide (mSort S s e nr ≠ 0)
def mGap (S : jS) (s e nr : Nat) : Int32 := nI (Nat.gcd (sI S (sV S s + 6) 0).toNatClampNeg (sI S (sV S e + 6) 0).toNatClampNeg) + (mSort S s e nr - 1) * sI S (sV S e + 6) 0
