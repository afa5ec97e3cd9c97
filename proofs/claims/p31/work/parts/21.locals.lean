/-! the locals of the little machine: what is known of them, by their numbers -/
def j_g : j_L → Nat → Option Value := fun lv i => match lv with
  | [] => none
  | q :: r => if q.1 = i then some q.2 else j_g r i
def j_s1 (i : Nat) (v : Value) (lv : j_L) : j_L := (i, v) :: lv.filter (fun q => !(q.1 == i) && !(q.1 + 1 == i && q.2.category == 2))
def j_s2 (i : Nat) (v : Value) (lv : j_L) : j_L := (i, v) :: lv.filter (fun q => !(q.1 == i) && (!(q.1 == i + 1) && !(q.1 + 1 == i && q.2.category == 2)))
theorem j_cat {ad : Nat → Nat} (v : Value) : (j_v ad v).category = v.category := by cases v <;> rfl
theorem j_g_mem : ∀ {lv : j_L} {i : Nat} {v : Value}, j_g lv i = some v → (i, v) ∈ lv
  | [], i, v, h => by simp [j_g] at h
  | q :: r, i, v, h => by
    unfold j_g at h
    split at h
    · rename_i e
      cases h
      subst e
      exact List.mem_cons_self
    · exact List.mem_cons_of_mem _ (j_g_mem h)
theorem j_at {ad : Nat → Nat} {ls : Array Slot} {n : Nat} {lv : j_L} (h : j_lv ad ls n lv) {i : Nat} {v : Value} (hg : j_g lv i = some v) : ls[i]? = some (.val (j_v ad v)) :=
  h.2.2 (i, j_v ad v) (List.mem_map.mpr ⟨(i, v), j_g_mem hg, rfl⟩)
theorem j_s1_map {ad : Nat → Nat} {i : Nat} {v : Value} {lv : j_L} : (i, j_v ad v) :: (lv.map (fun q => (q.1, j_v ad q.2))).filter (fun q => !(q.1 == i) && !(q.1 + 1 == i && q.2.category == 2)) = (j_s1 i v lv).map (fun q => (q.1, j_v ad q.2)) := by
  unfold j_s1
  rw [List.map_cons, List.filter_map]
  congr 2
  refine List.filter_congr fun q _ => ?_
  simp [j_cat]
theorem j_s2_map {ad : Nat → Nat} {i : Nat} {v : Value} {lv : j_L} : (i, j_v ad v) :: (lv.map (fun q => (q.1, j_v ad q.2))).filter (fun q => !(q.1 == i) && (!(q.1 == i + 1) && !(q.1 + 1 == i && q.2.category == 2))) = (j_s2 i v lv).map (fun q => (q.1, j_v ad q.2)) := by
  unfold j_s2
  rw [List.map_cons, List.filter_map]
  congr 2
  refine List.filter_congr fun q _ => ?_
  simp [j_cat]
/-- fewer locals known -/
theorem rn_sub {l : Launch} {D : va_G} {ad : Nat → Nat} {tc : Nat → ClassId} {L : Nat} {xs : Nat → Int32} {M : j_M} {d lo pc : Nat} {lv lv' : j_L} {st : List Value} {h h' : j_H} {r : Option Value} (hs : ∀ q ∈ lv', q ∈ lv) (k : Rn l D ad tc L xs M d lo pc lv' st h r h') : Rn l D ad tc L xs M d lo pc lv st h r h' :=
  ⟨k.1, fun p e R s m args below meth c H locs cells slots mc ms ls Q hF h1 h2 h3 h4 h5 h6 hl hP hS hQ => k.2 p e R s m args below meth c H locs cells slots mc ms ls Q hF h1 h2 h3 h4 h5 h6 ⟨hl.1, hl.2.1, fun q hq => by
    obtain ⟨q0, hq0, e⟩ := List.mem_map.mp hq
    exact hl.2.2 q (List.mem_map.mpr ⟨q0, hs q0 hq0, e⟩)⟩ hP hS hQ⟩
