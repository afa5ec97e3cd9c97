/-! numbers of the grid in the little machine -/
theorem nI_mul (a b : Nat) : nI a * nI b = nI (a * b) := (Int32.ofNat_mul a b).symm
/-- what a comparison of two doubles of the grid leaves -/
def cmpI (a b : Int) : Int32 := if a < b then -1 else if a = b then 0 else 1
theorem cmpI_of {a b : Int} (ha : dB a) (hb : dB b) (op : CmpOp) : Op.cmpValue (FP.dcmp (dv a) (dv b)) op = cmpI a b := by
  rw [dv_cmp ha hb]
  unfold cmpI compare
  show Op.cmpValue (some (compareOfLessAndEq a b)) op = _
  unfold compareOfLessAndEq
  by_cases h : a < b
  · rw [if_pos h, if_pos h]
    cases op <;> rfl
  · rw [if_neg h, if_neg h]
    by_cases h2 : a = b
    · rw [if_pos h2, if_pos h2]
      cases op <;> rfl
    · rw [if_neg h2, if_neg h2]
      cases op <;> rfl
theorem cmpI_gt {a b : Int} : 0 < cmpI a b ↔ b < a := by
  unfold cmpI
  by_cases h : a < b
  · rw [if_pos h]
    exact ⟨fun q => absurd q (by decide), fun q => by omega⟩
  · rw [if_neg h]
    by_cases h2 : a = b
    · rw [if_pos h2]
      exact ⟨fun q => absurd q (by decide), fun q => by omega⟩
    · rw [if_neg h2]
      exact ⟨fun _ => by omega, fun _ => by decide⟩
theorem cmpI_lt {a b : Int} : cmpI a b < 0 ↔ a < b := by
  unfold cmpI
  by_cases h : a < b
  · rw [if_pos h]
    exact ⟨fun _ => h, fun _ => by decide⟩
  · rw [if_neg h]
    by_cases h2 : a = b
    · rw [if_pos h2]
      exact ⟨fun q => absurd q (by decide), fun q => by omega⟩
    · rw [if_neg h2]
      exact ⟨fun q => absurd q (by decide), fun q => by omega⟩
theorem cmpI_eq {a b : Int} : cmpI a b = 0 ↔ a = b := by
  unfold cmpI
  by_cases h : a < b
  · rw [if_pos h]
    exact ⟨fun q => absurd q (by decide), fun q => by omega⟩
  · rw [if_neg h]
    by_cases h2 : a = b
    · rw [if_pos h2]
      exact ⟨fun _ => h2, fun _ => rfl⟩
    · rw [if_neg h2]
      exact ⟨fun q => absurd q (by decide), fun q => absurd q h2⟩
section L1
variable {l : Launch} {D : va_G} {ad : Nat → Nat} {tc : Nat → ClassId} {L : Nat} {xs : Nat → Int32} {M : j_M} {d lo pc : Nat} {lv : j_L} {st : List Value} {h h' : j_H} {r : Option Value}
theorem rn_topi {x y : Int32} (e : x = y) (k : Rn l D ad tc L xs M d lo pc lv (.int y :: st) h r h') : Rn l D ad tc L xs M d lo pc lv (.int x :: st) h r h' := e ▸ k
theorem rn_topd {x y : UInt64} (e : x = y) (k : Rn l D ad tc L xs M d lo pc lv (.double y :: st) h r h') : Rn l D ad tc L xs M d lo pc lv (.double x :: st) h r h' := e ▸ k
theorem rn_topf {x y : UInt32} (e : x = y) (k : Rn l D ad tc L xs M d lo pc lv (.float y :: st) h r h') : Rn l D ad tc L xs M d lo pc lv (.float x :: st) h r h' := e ▸ k
theorem rn_daddv {a b : Int} (hd : decode M.2.1 pc = .ok (.dadd, 1)) (ha : dB a) (hb : dB b) (k : Rn l D ad tc L xs M d lo (pc + 1) lv (.double (dv (a + b)) :: st) h r h') : Rn l D ad tc L xs M d lo pc lv (.double (dv b) :: .double (dv a) :: st) h r h' :=
  rn_dadd hd (by rw [dv_add ha hb]; exact dv_n _) (rn_topd (dv_add ha hb) k)
theorem rn_dsubv {a b : Int} (hd : decode M.2.1 pc = .ok (.dsub, 1)) (ha : dB a) (hb : dB b) (k : Rn l D ad tc L xs M d lo (pc + 1) lv (.double (dv (a - b)) :: st) h r h') : Rn l D ad tc L xs M d lo pc lv (.double (dv b) :: .double (dv a) :: st) h r h' :=
  rn_dsub hd (by rw [dv_sub ha hb]; exact dv_n _) (rn_topd (dv_sub ha hb) k)
theorem rn_dmulv {a b c : Int} (hd : decode M.2.1 pc = .ok (.dmul, 1)) (ha : dB a) (hb : dB b) (h1 : 0 ≤ a) (h2 : 0 ≤ b) (hc : a * b = c * 4096) (k : Rn l D ad tc L xs M d lo (pc + 1) lv (.double (dv c) :: st) h r h') : Rn l D ad tc L xs M d lo pc lv (.double (dv b) :: .double (dv a) :: st) h r h' :=
  rn_dmul hd (by rw [dv_mul' ha hb h1 h2 hc]; exact dv_n _) (rn_topd (dv_mul' ha hb h1 h2 hc) k)
theorem rn_dcmpv {a b : Int} {op : CmpOp} (hd : decode M.2.1 pc = .ok (.dcmp op, 1)) (ha : dB a) (hb : dB b) (k : Rn l D ad tc L xs M d lo (pc + 1) lv (.int (cmpI a b) :: st) h r h') : Rn l D ad tc L xs M d lo pc lv (.double (dv b) :: .double (dv a) :: st) h r h' :=
  rn_dcmp hd (rn_topi (cmpI_of ha hb op) k)
theorem rn_i2dv {x : Int32} (hd : decode M.2.1 pc = .ok (.i2d, 1)) (k : Rn l D ad tc L xs M d lo (pc + 1) lv (.double (dv (x.toInt * 4096)) :: st) h r h') : Rn l D ad tc L xs M d lo pc lv (.int x :: st) h r h' :=
  rn_i2d hd (rn_topd (i2d_dv x) k)
theorem rn_dcon {v : UInt64} {n index : Nat} {m : Int} (hd : decode M.2.1 pc = .ok (.ldc2_w index, 3)) (hw : Cond.constantDouble M.1.cls index v ∈ j_all) (he : v = dv m) (k : Rn l D ad tc L xs M d lo (pc + 3) lv (.double (dv m) :: st) h r h') : Rn l D ad tc L xs M d lo pc lv st h r h' :=
  rn_ldc2d hd hw (rn_topd he k)
theorem rn_dcon0 (hd : decode M.2.1 pc = .ok (.dconst 0, 1)) (k : Rn l D ad tc L xs M d lo (pc + 1) lv (.double (dv 0) :: st) h r h') : Rn l D ad tc L xs M d lo pc lv st h r h' :=
  rn_dconst0 hd (rn_topd dv_0 k)
theorem rn_dcon1 (hd : decode M.2.1 pc = .ok (.dconst 1, 1)) (k : Rn l D ad tc L xs M d lo (pc + 1) lv (.double (dv 4096) :: st) h r h') : Rn l D ad tc L xs M d lo pc lv st h r h' :=
  rn_dconst1 hd (rn_topd dv_1 k)
/-- the locals as listed -/
theorem rn_subg {lv' : j_L} (hs : lv'.map (fun q => j_g lv q.1) = lv'.map (fun q => some q.2)) (k : Rn l D ad tc L xs M d lo pc lv' st h r h') : Rn l D ad tc L xs M d lo pc lv st h r h' := by
  refine rn_sub (fun q hq => ?_) k
  obtain ⟨i, hi⟩ := List.getElem?_of_mem hq
  have e := congrArg (fun z => z[i]?) hs
  simp only [List.getElem?_map, hi, Option.map_some] at e
  exact j_g_mem (Option.some.inj e)

theorem dB_0 : dB 0 := by unfold dB; decide
theorem dB_of {n : Int} (h1 : -9007199254740992 < n) (h2 : n < 9007199254740992) : dB n := by unfold dB; omega
end L1
