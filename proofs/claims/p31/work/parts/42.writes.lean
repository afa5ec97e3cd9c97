/-! writing the cells of a SlackHall -/
def bI (b : Bool) : Int32 := if b = true then 1 else 0
theorem bI_0 {b : Bool} : bI b = 0 ↔ b = false := by cases b <;> simp [bI]
theorem bI_n {b : Bool} : ¬ bI b = 0 ↔ b = true := by cases b <;> simp [bI]
theorem bI_nar (b : Bool) : narrow .boolean (.int (bI b)) = .int (bI b) := by cases b <;> rfl
section J8
variable {l : Launch} {D : va_G} {ad : Nat → Nat} {tc : Nat → ClassId} {L : Nat} {xs : Nat → Int32} {M : j_M} {d lo pc : Nat} {lv : j_L} {st : List Value} {h' : j_H} {r : Option Value} {S S' : jS} {E : List j_C} {sl : Nat}
theorem rn_eq {h h2 : j_H} (e : h = h2) (k : Rn l D ad tc L xs M d lo pc lv st h2 r h') : Rn l D ad tc L xs M d lo pc lv st h r h' := e ▸ k
theorem rn_put {idx ci k a : Nat} {fs : List Value} {v : Value} {ty : FieldType} (hd : decode M.2.1 pc = .ok (.putfield idx, 3)) (hf : j_fp M.1.cls idx ci k ty) (ha : a < 84) (he : cc S a = .inr (ci, fs)) (hs : cc S' a = .inr (ci, fs.set k v)) (ho : ∀ j, j ≠ a → cc S' j = cc S j) (hk : k < fs.length) (hn : ∀ ad, narrow ty (j_v ad v) = j_v ad v ∧ fits ty (j_v ad v) = true) (hi : M.1.name = "<init>" ∨ ∃ C T N, j_cl[ci]? = some (C, T, N) ∧ (T k).2.2.2 = false)
    (kk : Rn l D ad tc L xs M d lo (pc + 3) lv st (wd S' E, sl) r h') : Rn l D ad tc L xs M d lo pc lv (v :: .ref (a + 1) :: st) (wd S E, sl) r h' :=
  rn_putfield (h := (wd S E, sl)) hd hf (wd_at ha he) hk hn hi (rn_eq (congrArg (fun x => (x, sl)) (wd_set ha hs ho)) kk)
/-- an int field of the cell a -/
theorem rn_pI {idx ci k a : Nat} {fs : List Value} {x : Int32} {ty : FieldType} (hd : decode M.2.1 pc = .ok (.putfield idx, 3)) (hf : j_fp M.1.cls idx ci k ty) (ha : a < 84) (he : cc S a = .inr (ci, fs)) (hs : cc (pI S a k x) a = .inr (ci, fs.set k (.int x))) (hk : k < fs.length) (hn : narrow ty (.int x) = .int x ∧ fits ty (.int x) = true) (hi : ∃ C T N, j_cl[ci]? = some (C, T, N) ∧ (T k).2.2.2 = false)
    (kk : Rn l D ad tc L xs M d lo (pc + 3) lv st (wd (pI S a k x) E, sl) r h') : Rn l D ad tc L xs M d lo pc lv (.int x :: .ref (a + 1) :: st) (wd S E, sl) r h' :=
  rn_put hd hf ha he hs (fun _ => pI_o) hk (fun _ => hn) (Or.inr hi) kk
theorem rn_pV {idx i v : Nat} {ty : FieldType} (hd : decode M.2.1 pc = .ok (.putfield idx, 3)) (hf : j_fp M.1.cls idx 5 4 ty) (hi : i < 16) (hn : ∀ a, narrow ty (.ref a) = .ref a ∧ fits ty (.ref a) = true)
    (kk : Rn l D ad tc L xs M d lo (pc + 3) lv st (wd (pV S i v) E, sl) r h') : Rn l D ad tc L xs M d lo pc lv (.ref (v + 7) :: .ref (i + 14) :: st) (wd S E, sl) r h' :=
  rn_put (a := i + 13) hd hf (by omega) (cc_node hi) (by rw [cc_node hi]; simp [pV, sI, sF, sV]) (fun _ => pV_o) (by simp) (fun ad => hn (ad (v + 7))) (Or.inr ⟨_, _, _, rfl, rfl⟩) kk
theorem rn_pW {idx i : Nat} {x : UInt32} {ty : FieldType} (hd : decode M.2.1 pc = .ok (.putfield idx, 3)) (hf : j_fp M.1.cls idx 5 6 ty) (hi : i < 16) (hn : narrow ty (.float x) = .float x ∧ fits ty (.float x) = true)
    (kk : Rn l D ad tc L xs M d lo (pc + 3) lv st (wd (pF2 S (i + 13) 6 x) E, sl) r h') : Rn l D ad tc L xs M d lo pc lv (.float x :: .ref (i + 14) :: st) (wd S E, sl) r h' :=
  rn_put (a := i + 13) hd hf (by omega) (cc_node hi) (by rw [cc_node hi]; simp [pF2, sI, sF, sV, up2]) (fun _ => pF2_o) (by simp) (fun _ => hn) (Or.inr ⟨_, _, _, rfl, rfl⟩) kk
theorem rn_pC {idx k v : Nat} {x : UInt64} {ty : FieldType} (hd : decode M.2.1 pc = .ok (.putfield idx, 3)) (hf : j_fp M.1.cls idx 3 k ty) (hv : v < 3) (hk : k = 0 ∨ k = 1) (hn : narrow ty (.double x) = .double x ∧ fits ty (.double x) = true)
    (kk : Rn l D ad tc L xs M d lo (pc + 3) lv st (wd (pD2 S (v + 10) k x) E, sl) r h') : Rn l D ad tc L xs M d lo pc lv (.double x :: .ref (v + 11) :: st) (wd S E, sl) r h' := by
  refine rn_put (a := v + 10) hd hf (by omega) (cc_corner hv) ?_ (fun _ => pD2_o) (by rcases hk with rfl | rfl <;> simp) (fun _ => hn) ?_ kk
  · rw [cc_corner hv]
    rcases hk with rfl | rfl <;> simp [pD2, sD, up2]
  · rcases hk with rfl | rfl <;> exact Or.inr ⟨_, _, _, rfl, rfl⟩
theorem cc_nodeI {i f : Nat} {x : Int32} (hi : i < 16) (hf : f = 0 ∨ f = 1 ∨ f = 2 ∨ f = 3 ∨ f = 5 ∨ f = 7) : cc (pI S (i + 13) f x) (i + 13) = .inr (5, [.int (sI S (i + 13) 0), .int (sI S (i + 13) 1), .int (sI S (i + 13) 2), .int (sI S (i + 13) 3), .ref (sV S i + 7), .int (sI S (i + 13) 5), .float (sF S (i + 13) 6), .int (sI S (i + 13) 7)].set f (.int x)) := by
  rw [cc_node hi]
  rcases hf with rfl | rfl | rfl | rfl | rfl | rfl <;> simp [pI, up2, sI, sF, sV]
theorem cc_clockI {v f : Nat} {x : Int32} (hv : v < 4) (hf : f < 5) : cc (pI S (v + 6) f x) (v + 6) = .inr (2, [.int (sI S (v + 6) 0), .int (sI S (v + 6) 1), .int (sI S (v + 6) 2), .int (sI S (v + 6) 3), .int (sI S (v + 6) 4)].set f (.int x)) := by
  rw [cc_clock hv]
  rcases (by omega : f = 0 ∨ f = 1 ∨ f = 2 ∨ f = 3 ∨ f = 4) with rfl | rfl | rfl | rfl | rfl <;> simp [pI, up2, sI]
theorem cc_ruleI {i f : Nat} {x : Int32} (hi : i < 6) (hf : f < 3) : cc (pI S (i + 29) f x) (i + 29) = .inr (7, [.int (sI S (i + 29) 0), .int (sI S (i + 29) 1), .int (sI S (i + 29) 2)].set f (.int x)) := by
  rw [cc_rule hi]
  rcases (by omega : f = 0 ∨ f = 1 ∨ f = 2) with rfl | rfl | rfl <;> simp [pI, up2, sI]
theorem cc_timI {j : Nat} {x : Int32} : cc (pI S (5 * j + 49) 8 x) (5 * j + 49) = .inr (8, [.ref 2, .ref 39, .ref (delT j), .int (isLateT j), .ref (5 * j + 51), .ref (5 * j + 52), .ref (5 * j + 53), .ref (5 * j + 54), .int (sI S (5 * j + 49) 8)].set 8 (.int x)) := by
  rw [cc_tim]
  simp [pI, up2, sI]
/-- an int array at the cell a -/
theorem rn_pA {a n : Nat} {i x : Int32} (hd : decode M.2.1 pc = .ok (.iastore, 1)) (ha : a < 84) (he : cc S a = .inl (0, n, .inl (S.2.1 a))) (hs : ∀ g, cc (pA S a g) a = .inl (0, n, .inl g)) (hin : vp_in i n)
    (kk : Rn l D ad tc L xs M d lo (pc + 1) lv st (wd (pA S a (upd (S.2.1 a) i.toNatClampNeg x)) E, sl) r h') : Rn l D ad tc L xs M d lo pc lv (.int x :: .int i :: .ref (a + 1) :: st) (wd S E, sl) r h' :=
  rn_iastore (h := (wd S E, sl)) hd (wd_at ha he) rfl hin (rn_eq (congrArg (fun x => (x, sl)) (wd_set ha (hs _) (fun _ => pA_o))) kk)
theorem rn_pD {a n : Nat} {i : Int32} {x : UInt64} (hd : decode M.2.1 pc = .ok (.dastore, 1)) (ha : a < 84) (he : cc S a = .inl (1, n, .inr (.inr (.inr (.inl (S.2.2.1 a)))))) (hs : ∀ g, cc (pD S a g) a = .inl (1, n, .inr (.inr (.inr (.inl g))))) (hin : vp_in i n)
    (kk : Rn l D ad tc L xs M d lo (pc + 1) lv st (wd (pD S a (vf_upd (S.2.2.1 a) i.toNatClampNeg x)) E, sl) r h') : Rn l D ad tc L xs M d lo pc lv (.double x :: .int i :: .ref (a + 1) :: st) (wd S E, sl) r h' :=
  rn_dastore (h := (wd S E, sl)) hd (wd_at ha he) rfl hin (rn_eq (congrArg (fun x => (x, sl)) (wd_set ha (hs _) (fun _ => pD_o))) kk)
theorem rn_pF {a n : Nat} {i : Int32} {x : UInt32} (hd : decode M.2.1 pc = .ok (.fastore, 1)) (ha : a < 84) (he : cc S a = .inl (2, n, .inr (.inr (.inl (S.2.2.2.1 a))))) (hs : ∀ g, cc (pF S a g) a = .inl (2, n, .inr (.inr (.inl g)))) (hin : vp_in i n)
    (kk : Rn l D ad tc L xs M d lo (pc + 1) lv st (wd (pF S a (vf_upd (S.2.2.2.1 a) i.toNatClampNeg x)) E, sl) r h') : Rn l D ad tc L xs M d lo pc lv (.float x :: .int i :: .ref (a + 1) :: st) (wd S E, sl) r h' :=
  rn_fastore (h := (wd S E, sl)) hd (wd_at ha he) rfl hin (rn_eq (congrArg (fun x => (x, sl)) (wd_set ha (hs _) (fun _ => pF_o))) kk)
theorem pA_s {a n : Nat} (ha : a = 39 ∧ n = 16 ∨ a = 40 ∧ n = 16 ∨ a = 41 ∧ n = 256 ∨ a = 42 ∧ n = 256) : cc S a = .inl (0, n, .inl (S.2.1 a)) ∧ ∀ g, cc (pA S a g) a = .inl (0, n, .inl g) := by
  rcases ha with ⟨rfl, rfl⟩ | ⟨rfl, rfl⟩ | ⟨rfl, rfl⟩ | ⟨rfl, rfl⟩ <;> exact ⟨rfl, fun _ => rfl⟩
theorem pD_arr {j : Nat} (g : Nat → UInt64) : cc (pD S (5 * j + 50) g) (5 * j + 50) = .inl (1, 512, .inr (.inr (.inr (.inl g)))) := by rw [cc_arr]; simp [pD, sD, up1]
theorem pD_lefts {j : Nat} (g : Nat → UInt64) : cc (pD S (5 * j + 51) g) (5 * j + 51) = .inl (1, 256, .inr (.inr (.inr (.inl g)))) := by rw [cc_lefts]; simp [pD, sD, up1]
theorem pD_leasts {j : Nat} (g : Nat → UInt64) : cc (pD S (5 * j + 52) g) (5 * j + 52) = .inl (1, 16, .inr (.inr (.inr (.inl g)))) := by rw [cc_leasts]; simp [pD, sD, up1]
theorem pD_borrows {j : Nat} (g : Nat → UInt64) : cc (pD S (5 * j + 53) g) (5 * j + 53) = .inl (1, 16, .inr (.inr (.inr (.inl g)))) := by rw [cc_borrows]; simp [pD, sD, up1]
/-- a reference out of an array of objects at known places -/
theorem refs_at {n o : Nat} {i : Int32} {k : Nat} (hi : i = nI k) (hk : k < n) (hn : n < 2 ^ 31) : refs n o i.toNatClampNeg = some (k + o) := by
  subst hi
  rw [nI_clamp (by omega)]
  exact if_pos hk
theorem tref_at {o : Nat} {i : Int32} {k : Nat} (hi : i = nI k) (hk : k < 3) : tref o i.toNatClampNeg = some (10 * k + o) := by
  subst hi
  rw [nI_clamp (by omega)]
  exact if_pos hk
end J8
