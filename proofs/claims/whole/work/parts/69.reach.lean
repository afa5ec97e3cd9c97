/-! The bits of a row; what the paths' rows say -/
/-- bit s of a word -/
def bitW (x : Int32) (s : Nat) : Bool := decide ((x >>> (nI s &&& 31)) &&& 1 ≠ 0)
theorem bitR_W (R : Nat → Int32) (s i : Nat) : bitR R s i = bitW (R i) s := rfl
theorem bw_k {x k : Int32} : decide ((x >>> k) &&& 1 ≠ 0) = (x >>> k).toBitVec.getLsbD 0 := by
  have h : ((x >>> k) &&& 1 = 0) ↔ (x >>> k).toBitVec.getLsbD 0 = false := by
    rw [← Int32.toBitVec_inj]
    constructor
    · intro h
      have := congrArg (fun z => z.getLsbD 0) h
      simpa using this
    · intro h
      apply BitVec.eq_of_getLsbD_eq
      intro i hi
      have hone : (1 : Int32).toBitVec = 1#32 := rfl
      have hzero : (0 : Int32).toBitVec = 0#32 := rfl
      rw [Int32.toBitVec_and, BitVec.getLsbD_and, hone, hzero, BitVec.getLsbD_one, BitVec.getLsbD_zero]
      by_cases h0 : i = 0
      · subst h0
        rw [h]
        rfl
      · simp [h0]
  by_cases q : (x >>> k) &&& 1 = 0
  · rw [h.mp q]
    simp [q]
  · rw [show decide (¬ ((x >>> k) &&& 1 = 0)) = true by simp [q]]
    cases hb : (x >>> k).toBitVec.getLsbD 0
    · exact absurd (h.mpr hb) q
    · rfl
theorem bitW_at (x : Int32) {s : Nat} (hs : s < 16) : bitW x s = x.toBitVec.getLsbD s := by
  unfold bitW
  rw [bw_k]
  have h : ((nI s &&& 31).toBitVec.smod 32) = BitVec.ofNat 32 s := by
    revert s
    decide +kernel
  rw [Int32.toBitVec_shiftRight, h, BitVec.sshiftRight_eq', BitVec.getLsbD_sshiftRight]
  have h2 : (BitVec.ofNat 32 s).toNat = s := by simp; omega
  rw [h2]
  simp
  omega
theorem bitW_or (x y : Int32) {s : Nat} (hs : s < 16) : bitW (x ||| y) s = (bitW x s || bitW y s) := by
  rw [bitW_at _ hs, bitW_at _ hs, bitW_at _ hs, Int32.toBitVec_or, BitVec.getLsbD_or]
theorem bitW_one : ∀ m, m < 16 → ∀ s, s < 16 → bitW (1 <<< (nI m &&& 31)) s = decide (s = m) := by decide +kernel
theorem bitW_0 : ∀ s, s < 16 → bitW 0 s = false := by decide +kernel
