/-! the state of a SlackHall: 84 cells in the order of their making; behind them the law's own -/
abbrev jS : Type := (Nat → Nat → Int32) × (Nat → Nat → Int32) × (Nat → Nat → UInt64) × (Nat → Nat → UInt32) × (Nat → Nat)
/-- int fields, int arrays, doubles, floats of the cell k; the clock of a node -/
abbrev sI (S : jS) : Nat → Nat → Int32 := S.1
abbrev sA (S : jS) : Nat → Nat → Int32 := S.2.1
abbrev sD (S : jS) : Nat → Nat → UInt64 := S.2.2.1
abbrev sF (S : jS) : Nat → Nat → UInt32 := S.2.2.2.1
abbrev sV (S : jS) : Nat → Nat := S.2.2.2.2
def refs (n o : Nat) : Nat → Option Nat := fun j => if j < n then some (j + o) else none
/-- the places of the timings: the trial, then late and early of each corner -/
def isLateT (j : Nat) : Int32 := if j = 0 then 1 else if j % 2 = 1 then 1 else 0
def delT (j : Nat) : Nat := if j = 0 then 47 else 44
def tref (o : Nat) : Nat → Option Nat := fun j => if j < 3 then some (10 * j + o) else none
def cc (S : jS) (k : Nat) : j_C :=
  if k < 6 then
    match k with
    | 0 => .inr (9, [.ref 2, .ref 36, .int (sI S 0 2), .int (sI S 0 3)])
    | 1 => .inr (1, [.ref 3, .ref 4, .ref 5, .ref 6, .int (sI S 1 4), .int (sI S 1 5), .int (sI S 1 6), .int (sI S 1 7)])
    | 2 => .inl (3, 4, .inr (.inr (.inr (.inr (refs 4 7)))))
    | 3 => .inl (4, 3, .inr (.inr (.inr (.inr (refs 3 11)))))
    | 4 => .inl (5, 16, .inr (.inr (.inr (.inr (refs 16 14)))))
    | _ => .inl (6, 6, .inr (.inr (.inr (.inr (refs 6 30)))))
  else if k < 10 then .inr (2, [.int (sI S k 0), .int (sI S k 1), .int (sI S k 2), .int (sI S k 3), .int (sI S k 4)])
  else if k < 13 then .inr (3, [.double (sD S k 0), .double (sD S k 1)])
  else if k < 29 then .inr (5, [.int (sI S k 0), .int (sI S k 1), .int (sI S k 2), .int (sI S k 3), .ref (sV S (k - 13) + 7), .int (sI S k 5), .float (sF S k 6), .int (sI S k 7)])
  else if k < 35 then .inr (7, [.int (sI S k 0), .int (sI S k 1), .int (sI S k 2)])
  else if k < 49 then
    match k - 35 with
    | 0 => .inr (0, [.ref 2, .ref 39, .ref 44, .ref 37, .ref 38, .ref 47, .ref 50])
    | 1 => .inl (7, 3, .inr (.inr (.inr (.inr (tref 55)))))
    | 2 => .inl (7, 3, .inr (.inr (.inr (.inr (tref 60)))))
    | 3 => .inr (6, [.ref 2, .ref 40, .ref 41, .ref 42, .ref 43, .int (sI S 38 5)])
    | 4 => .inl (0, 16, .inl (sA S 39))
    | 5 => .inl (0, 16, .inl (sA S 40))
    | 6 => .inl (0, 256, .inl (sA S 41))
    | 7 => .inl (0, 256, .inl (sA S 42))
    | 8 => .inr (4, [.ref 2, .ref 45, .ref 46, .int (sI S 43 3)])
    | 9 => .inl (2, 16, .inr (.inr (.inl (sF S 44))))
    | 10 => .inl (1, 16, .inr (.inr (.inr (.inl (sD S 45)))))
    | 11 => .inr (4, [.ref 2, .ref 48, .ref 49, .int (sI S 46 3)])
    | 12 => .inl (2, 16, .inr (.inr (.inl (sF S 47))))
    | _ => .inl (1, 16, .inr (.inr (.inr (.inl (sD S 48)))))
  else
    match (k - 49) % 5 with
    | 0 => .inr (8, [.ref 2, .ref 39, .ref (delT ((k - 49) / 5)), .int (isLateT ((k - 49) / 5)), .ref (k + 2), .ref (k + 3), .ref (k + 4), .ref (k + 5), .int (sI S k 8)])
    | 1 => .inl (1, 512, .inr (.inr (.inr (.inl (sD S k)))))
    | 2 => .inl (1, 256, .inr (.inr (.inr (.inl (sD S k)))))
    | _ => .inl (1, 16, .inr (.inr (.inr (.inl (sD S k)))))
def wd (S : jS) (E : List j_C) : List j_C := (List.range 84).map (cc S) ++ E
theorem wd_len (S : jS) (E : List j_C) : (wd S E).length = 84 + E.length := by simp [wd]
theorem wd_at {S : jS} {E : List j_C} {k : Nat} {c : j_C} (hk : k < 84) (h : cc S k = c) : (wd S E)[k]? = some c := by
  unfold wd
  rw [List.getElem?_append_left (by simpa using hk), List.getElem?_map, List.getElem?_range hk, ← h]
  rfl
theorem wd_set {S S' : jS} {E : List j_C} {k : Nat} {c : j_C} (hk : k < 84) (h : cc S' k = c) (ho : ∀ j, j ≠ k → cc S' j = cc S j) : (wd S E).set k c = wd S' E := by
  unfold wd
  rw [List.set_append_left _ _ (by simpa using hk)]
  congr 1
  apply List.ext_getElem?
  intro i
  rw [List.getElem?_set]
  by_cases e : k = i
  · subst e
    rw [if_pos rfl, if_pos (by simpa using hk), List.getElem?_map, List.getElem?_range hk, ← h]
    rfl
  · rw [if_neg e, List.getElem?_map, List.getElem?_map]
    by_cases hi : i < 84
    · rw [List.getElem?_range hi]
      exact congrArg some (ho i (fun z => e z.symm)).symm
    · rw [List.getElem?_eq_none (by simpa using hi)]
      rfl
def up2 {α : Type} (F : Nat → Nat → α) (k f : Nat) (v : α) : Nat → Nat → α := fun a b => if a = k ∧ b = f then v else F a b
def up1 {α : Type} (F : Nat → Nat → α) (k : Nat) (g : Nat → α) : Nat → Nat → α := fun a => if a = k then g else F a
theorem up2_eq {α : Type} (F : Nat → Nat → α) (k f : Nat) (v : α) : up2 F k f v k f = v := if_pos ⟨rfl, rfl⟩
theorem up2_k {α : Type} (F : Nat → Nat → α) {k a f b : Nat} (v : α) (h : a ≠ k) : up2 F k f v a b = F a b := if_neg fun z => h z.1
theorem up2_f {α : Type} (F : Nat → Nat → α) {k a f b : Nat} (v : α) (h : b ≠ f) : up2 F k f v a b = F a b := if_neg fun z => h z.2
theorem up1_eq {α : Type} (F : Nat → Nat → α) (k : Nat) (g : Nat → α) : up1 F k g k = g := if_pos rfl
theorem up1_ne {α : Type} (F : Nat → Nat → α) {k a : Nat} (g : Nat → α) (h : a ≠ k) : up1 F k g a = F a := if_neg h
/-- an int field, an int array, a double field, a double array, a float field, a float array, a node's clock: changed -/
def pI (S : jS) (k f : Nat) (v : Int32) : jS := (up2 S.1 k f v, S.2)
def pA (S : jS) (k : Nat) (g : Nat → Int32) : jS := (S.1, up1 S.2.1 k g, S.2.2)
def pD2 (S : jS) (k f : Nat) (v : UInt64) : jS := (S.1, S.2.1, up2 S.2.2.1 k f v, S.2.2.2)
def pD (S : jS) (k : Nat) (g : Nat → UInt64) : jS := (S.1, S.2.1, up1 S.2.2.1 k g, S.2.2.2)
def pF2 (S : jS) (k f : Nat) (v : UInt32) : jS := (S.1, S.2.1, S.2.2.1, up2 S.2.2.2.1 k f v, S.2.2.2.2)
def pF (S : jS) (k : Nat) (g : Nat → UInt32) : jS := (S.1, S.2.1, S.2.2.1, up1 S.2.2.2.1 k g, S.2.2.2.2)
def pV (S : jS) (i v : Nat) : jS := (S.1, S.2.1, S.2.2.1, S.2.2.2.1, fun a => if a = i then v else S.2.2.2.2 a)
/-- a cell hangs on what is its own alone -/
theorem cc_congr {S S' : jS} {j : Nat} (h1 : ∀ f, S'.1 j f = S.1 j f) (h2 : S'.2.1 j = S.2.1 j) (h3 : S'.2.2.1 j = S.2.2.1 j) (h4 : S'.2.2.2.1 j = S.2.2.2.1 j) (h5 : 13 ≤ j → j < 29 → S'.2.2.2.2 (j - 13) = S.2.2.2.2 (j - 13)) : cc S' j = cc S j := by
  unfold cc sI sA sD sF sV
  by_cases a1 : j < 6
  · rw [if_pos a1, if_pos a1]
    rcases (by omega : j = 0 ∨ j = 1 ∨ j = 2 ∨ j = 3 ∨ j = 4 ∨ j = 5) with rfl | rfl | rfl | rfl | rfl | rfl <;> simp only [h1]
  rw [if_neg a1, if_neg a1]
  by_cases a2 : j < 10
  · rw [if_pos a2, if_pos a2]
    simp only [h1]
  rw [if_neg a2, if_neg a2]
  by_cases a3 : j < 13
  · rw [if_pos a3, if_pos a3, h3]
  rw [if_neg a3, if_neg a3]
  by_cases a4 : j < 29
  · rw [if_pos a4, if_pos a4, h4, h5 (by omega) a4]
    simp only [h1]
  rw [if_neg a4, if_neg a4]
  by_cases a5 : j < 35
  · rw [if_pos a5, if_pos a5]
    simp only [h1]
  rw [if_neg a5, if_neg a5]
  by_cases a6 : j < 49
  · rw [if_pos a6, if_pos a6]
    rcases (by omega : j = 35 ∨ j = 36 ∨ j = 37 ∨ j = 38 ∨ j = 39 ∨ j = 40 ∨ j = 41 ∨ j = 42 ∨ j = 43 ∨ j = 44 ∨ j = 45 ∨ j = 46 ∨ j = 47 ∨ j = 48) with rfl | rfl | rfl | rfl | rfl | rfl | rfl | rfl | rfl | rfl | rfl | rfl | rfl | rfl <;> first | (simp only [h1, h2, h3, h4]; done) | (show (Sum.inl (1, 16, Sum.inr (Sum.inr (Sum.inr (Sum.inl (S'.2.2.1 48))))) : j_C) = Sum.inl (1, 16, Sum.inr (Sum.inr (Sum.inr (Sum.inl (S.2.2.1 48))))); rw [h3])
  rw [if_neg a6, if_neg a6]
  simp only [h1, h3]
theorem pI_o {S : jS} {k f j : Nat} {v : Int32} (h : j ≠ k) : cc (pI S k f v) j = cc S j := cc_congr (fun _ => up2_k _ _ h) rfl rfl rfl (fun _ _ => rfl)
theorem pA_o {S : jS} {k j : Nat} {g : Nat → Int32} (h : j ≠ k) : cc (pA S k g) j = cc S j := cc_congr (fun _ => rfl) (up1_ne _ _ h) rfl rfl (fun _ _ => rfl)
theorem pD_o {S : jS} {k j : Nat} {g : Nat → UInt64} (h : j ≠ k) : cc (pD S k g) j = cc S j := cc_congr (fun _ => rfl) rfl (up1_ne _ _ h) rfl (fun _ _ => rfl)
theorem pF_o {S : jS} {k j : Nat} {g : Nat → UInt32} (h : j ≠ k) : cc (pF S k g) j = cc S j := cc_congr (fun _ => rfl) rfl rfl (up1_ne _ _ h) (fun _ _ => rfl)
theorem pD2_o {S : jS} {k f j : Nat} {v : UInt64} (h : j ≠ k) : cc (pD2 S k f v) j = cc S j := cc_congr (fun _ => rfl) rfl (funext fun _ => up2_k _ _ h) rfl (fun _ _ => rfl)
theorem pF2_o {S : jS} {k f j : Nat} {v : UInt32} (h : j ≠ k) : cc (pF2 S k f v) j = cc S j := cc_congr (fun _ => rfl) rfl rfl (funext fun _ => up2_k _ _ h) (fun _ _ => rfl)
theorem pV_o {S : jS} {i v j : Nat} (h : j ≠ i + 13) : cc (pV S i v) j = cc S j := cc_congr (fun _ => rfl) rfl rfl rfl (fun a _ => if_neg (by omega))
/-! the cells, by kind -/
theorem cc_clock {S : jS} {v : Nat} (h : v < 4) : cc S (v + 6) = .inr (2, [.int (sI S (v + 6) 0), .int (sI S (v + 6) 1), .int (sI S (v + 6) 2), .int (sI S (v + 6) 3), .int (sI S (v + 6) 4)]) := by
  unfold cc
  rw [if_neg (by omega), if_pos (by omega)]
theorem cc_corner {S : jS} {v : Nat} (h : v < 3) : cc S (v + 10) = .inr (3, [.double (sD S (v + 10) 0), .double (sD S (v + 10) 1)]) := by
  unfold cc
  rw [if_neg (by omega), if_neg (by omega), if_pos (by omega)]
theorem cc_node {S : jS} {i : Nat} (h : i < 16) : cc S (i + 13) = .inr (5, [.int (sI S (i + 13) 0), .int (sI S (i + 13) 1), .int (sI S (i + 13) 2), .int (sI S (i + 13) 3), .ref (sV S i + 7), .int (sI S (i + 13) 5), .float (sF S (i + 13) 6), .int (sI S (i + 13) 7)]) := by
  unfold cc
  rw [if_neg (by omega), if_neg (by omega), if_neg (by omega), if_pos (by omega), Nat.add_sub_cancel]
theorem cc_rule {S : jS} {i : Nat} (h : i < 6) : cc S (i + 29) = .inr (7, [.int (sI S (i + 29) 0), .int (sI S (i + 29) 1), .int (sI S (i + 29) 2)]) := by
  unfold cc
  rw [if_neg (by omega), if_neg (by omega), if_neg (by omega), if_neg (by omega), if_pos (by omega)]
theorem cc_tim {S : jS} {j : Nat} : cc S (5 * j + 49) = .inr (8, [.ref 2, .ref 39, .ref (delT j), .int (isLateT j), .ref (5 * j + 51), .ref (5 * j + 52), .ref (5 * j + 53), .ref (5 * j + 54), .int (sI S (5 * j + 49) 8)]) := by
  unfold cc
  rw [if_neg (by omega), if_neg (by omega), if_neg (by omega), if_neg (by omega), if_neg (by omega), if_neg (by omega), show 5 * j + 49 - 49 = 5 * j by omega, show 5 * j % 5 = 0 by omega, show 5 * j / 5 = j by omega]
  rfl
theorem cc_arr {S : jS} {j : Nat} : cc S (5 * j + 50) = .inl (1, 512, .inr (.inr (.inr (.inl (sD S (5 * j + 50)))))) := by
  unfold cc
  rw [if_neg (by omega), if_neg (by omega), if_neg (by omega), if_neg (by omega), if_neg (by omega), if_neg (by omega), show (5 * j + 50 - 49) % 5 = 1 by omega]
  rfl
theorem cc_lefts {S : jS} {j : Nat} : cc S (5 * j + 51) = .inl (1, 256, .inr (.inr (.inr (.inl (sD S (5 * j + 51)))))) := by
  unfold cc
  rw [if_neg (by omega), if_neg (by omega), if_neg (by omega), if_neg (by omega), if_neg (by omega), if_neg (by omega), show (5 * j + 51 - 49) % 5 = 2 by omega]
  rfl
theorem cc_leasts {S : jS} {j : Nat} : cc S (5 * j + 52) = .inl (1, 16, .inr (.inr (.inr (.inl (sD S (5 * j + 52)))))) := by
  unfold cc
  rw [if_neg (by omega), if_neg (by omega), if_neg (by omega), if_neg (by omega), if_neg (by omega), if_neg (by omega), show (5 * j + 52 - 49) % 5 = 3 by omega]
  rfl
theorem cc_borrows {S : jS} {j : Nat} : cc S (5 * j + 53) = .inl (1, 16, .inr (.inr (.inr (.inl (sD S (5 * j + 53)))))) := by
  unfold cc
  rw [if_neg (by omega), if_neg (by omega), if_neg (by omega), if_neg (by omega), if_neg (by omega), if_neg (by omega), show (5 * j + 53 - 49) % 5 = 4 by omega]
  rfl
section J7
variable {S : jS} {E : List j_C} {i v j : Nat}
theorem h_clock (h : v < 4) : (wd S E)[v + 6]? = some (.inr (2, [.int (sI S (v + 6) 0), .int (sI S (v + 6) 1), .int (sI S (v + 6) 2), .int (sI S (v + 6) 3), .int (sI S (v + 6) 4)])) := wd_at (by omega) (cc_clock h)
theorem h_corner (h : v < 3) : (wd S E)[v + 10]? = some (.inr (3, [.double (sD S (v + 10) 0), .double (sD S (v + 10) 1)])) := wd_at (by omega) (cc_corner h)
theorem h_node (h : i < 16) : (wd S E)[i + 13]? = some (.inr (5, [.int (sI S (i + 13) 0), .int (sI S (i + 13) 1), .int (sI S (i + 13) 2), .int (sI S (i + 13) 3), .ref (sV S i + 7), .int (sI S (i + 13) 5), .float (sF S (i + 13) 6), .int (sI S (i + 13) 7)])) := wd_at (by omega) (cc_node h)
theorem h_rule (h : i < 6) : (wd S E)[i + 29]? = some (.inr (7, [.int (sI S (i + 29) 0), .int (sI S (i + 29) 1), .int (sI S (i + 29) 2)])) := wd_at (by omega) (cc_rule h)
theorem h_tim (h : j < 7) : (wd S E)[5 * j + 49]? = some (.inr (8, [.ref 2, .ref 39, .ref (delT j), .int (isLateT j), .ref (5 * j + 51), .ref (5 * j + 52), .ref (5 * j + 53), .ref (5 * j + 54), .int (sI S (5 * j + 49) 8)])) := wd_at (by omega) cc_tim
theorem h_arr (h : j < 7) : (wd S E)[5 * j + 50]? = some (.inl (1, 512, .inr (.inr (.inr (.inl (sD S (5 * j + 50))))))) := wd_at (by omega) cc_arr
theorem h_lefts (h : j < 7) : (wd S E)[5 * j + 51]? = some (.inl (1, 256, .inr (.inr (.inr (.inl (sD S (5 * j + 51))))))) := wd_at (by omega) cc_lefts
theorem h_leasts (h : j < 7) : (wd S E)[5 * j + 52]? = some (.inl (1, 16, .inr (.inr (.inr (.inl (sD S (5 * j + 52))))))) := wd_at (by omega) cc_leasts
theorem h_borrows (h : j < 7) : (wd S E)[5 * j + 53]? = some (.inl (1, 16, .inr (.inr (.inr (.inl (sD S (5 * j + 53))))))) := wd_at (by omega) cc_borrows
theorem h_SH : (wd S E)[0]? = some (.inr (9, [.ref 2, .ref 36, .int (sI S 0 2), .int (sI S 0 3)])) := wd_at (by decide) rfl
theorem h_chip : (wd S E)[1]? = some (.inr (1, [.ref 3, .ref 4, .ref 5, .ref 6, .int (sI S 1 4), .int (sI S 1 5), .int (sI S 1 6), .int (sI S 1 7)])) := wd_at (by decide) rfl
theorem h_clocks : (wd S E)[2]? = some (.inl (3, 4, .inr (.inr (.inr (.inr (refs 4 7)))))) := wd_at (by decide) rfl
theorem h_corners : (wd S E)[3]? = some (.inl (4, 3, .inr (.inr (.inr (.inr (refs 3 11)))))) := wd_at (by decide) rfl
theorem h_nodes : (wd S E)[4]? = some (.inl (5, 16, .inr (.inr (.inr (.inr (refs 16 14)))))) := wd_at (by decide) rfl
theorem h_rules : (wd S E)[5]? = some (.inl (6, 6, .inr (.inr (.inr (.inr (refs 6 30)))))) := wd_at (by decide) rfl
theorem h_an : (wd S E)[35]? = some (.inr (0, [.ref 2, .ref 39, .ref 44, .ref 37, .ref 38, .ref 47, .ref 50])) := wd_at (by decide) rfl
theorem h_lates : (wd S E)[36]? = some (.inl (7, 3, .inr (.inr (.inr (.inr (tref 55)))))) := wd_at (by decide) rfl
theorem h_earlies : (wd S E)[37]? = some (.inl (7, 3, .inr (.inr (.inr (.inr (tref 60)))))) := wd_at (by decide) rfl
theorem h_paths : (wd S E)[38]? = some (.inr (6, [.ref 2, .ref 40, .ref 41, .ref 42, .ref 43, .int (sI S 38 5)])) := wd_at (by decide) rfl
theorem h_reach : (wd S E)[39]? = some (.inl (0, 16, .inl (sA S 39))) := wd_at (by decide) rfl
theorem h_checked : (wd S E)[40]? = some (.inl (0, 16, .inl (sA S 40))) := wd_at (by decide) rfl
theorem h_counts : (wd S E)[41]? = some (.inl (0, 256, .inl (sA S 41))) := wd_at (by decide) rfl
theorem h_gaps : (wd S E)[42]? = some (.inl (0, 256, .inl (sA S 42))) := wd_at (by decide) rfl
/-- the delays, and those of the trial: at x = 43 and 46 -/
theorem h_del {x : Nat} (h : x = 43 ∨ x = 46) : (wd S E)[x]? = some (.inr (4, [.ref 2, .ref (x + 2), .ref (x + 3), .int (sI S x 3)])) := by
  rcases h with rfl | rfl <;> exact wd_at (by decide) rfl
theorem h_loads {x : Nat} (h : x = 43 ∨ x = 46) : (wd S E)[x + 1]? = some (.inl (2, 16, .inr (.inr (.inl (sF S (x + 1)))))) := by
  rcases h with rfl | rfl <;> exact wd_at (by decide) rfl
theorem h_rises {x : Nat} (h : x = 43 ∨ x = 46) : (wd S E)[x + 2]? = some (.inl (1, 16, .inr (.inr (.inr (.inl (sD S (x + 2))))))) := by
  rcases h with rfl | rfl <;> exact wd_at (by decide) rfl
end J7
