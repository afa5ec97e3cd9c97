/-! the cells of the little machine: reading, writing, making -/
theorem j_w_get {ad : Nat → Nat} {tc : Nat → ClassId} {G : List j_C} {k : Nat} {c : j_C} (h : G[k]? = some c) : (j_w ad tc G)[k]? = some (ad (k + 1), j_c ad tc c) := by
  simp [j_w, List.getElem?_mapIdx, h]
theorem j_w_in {ad : Nat → Nat} {tc : Nat → ClassId} {G : List j_C} {k : Nat} {q : Nat × va_E} (h : (j_w ad tc G)[k]? = some q) : ∃ c, G[k]? = some c ∧ q = (ad (k + 1), j_c ad tc c) := by
  simp only [j_w, List.getElem?_mapIdx] at h
  cases hc : G[k]? with
  | none => rw [hc] at h; cases h
  | some c => rw [hc] at h; exact ⟨c, rfl, (Option.some.inj h).symm⟩
theorem j_w_set {ad : Nat → Nat} {tc : Nat → ClassId} {G : List j_C} {k : Nat} {c : j_C} : (j_w ad tc G).set k (ad (k + 1), j_c ad tc c) = j_w ad tc (G.set k c) := by
  apply List.ext_getElem?
  intro i
  simp only [j_w, List.getElem?_set, List.getElem?_mapIdx, List.length_mapIdx]
  by_cases e : k = i
  · subst e
    by_cases hk : k < G.length
    · simp [hk]
    · simp [hk]
  · simp [e]
theorem j_w_app {ad : Nat → Nat} {tc : Nat → ClassId} {G : List j_C} {c : j_C} : j_w ad tc (G ++ [c]) = j_w ad tc G ++ [(ad (G.length + 1), j_c ad tc c)] := by
  simp [j_w, List.mapIdx_append]
theorem j_D {ad : Nat → Nat} {tc : Nat → ClassId} {G : List j_C} (hinj : ∀ i j, ad i = ad j → i = j) : va_D (j_A ad) (j_w ad tc G) := by
  refine ⟨fun i j p q hp hq e => ?_, fun k q hq => ?_⟩
  · obtain ⟨_, -, rfl⟩ := j_w_in hp
    obtain ⟨_, -, rfl⟩ := j_w_in hq
    have := hinj _ _ e
    omega
  · obtain ⟨_, -, rfl⟩ := j_w_in hq
    exact ⟨k, rfl⟩
theorem j_nA {ad : Nat → Nat} (hinj : ∀ i j, ad i = ad j → i = j) : ¬ j_A ad (ad 0) := fun ⟨k, hk⟩ => by
  have := hinj _ _ hk
  omega
theorem j_ty_at {tc : Nat → ClassId} {t : Nat} {ty : FieldType} (h : j_ty[t]? = some ty) : (j_tys tc)[t]? = some (tc t, ty) := by
  simp [j_tys, List.getElem?_mapIdx, h]
theorem va_P.sz {D : va_G} {ad : Nat → Nat} {tc : Nat → ClassId} {H H' : Heap} {G G' : List j_C} (hP : va_P D j_cl (j_w ad tc G) H) {k : Nat} {c : j_C} (h : G[k]? = some c) : ad (k + 1) < H.size := (hP k _ (j_w_get h)).lt
section J3
variable {l : Launch} {D : va_G} {ad : Nat → Nat} {tc : Nat → ClassId} {L : Nat} {xs : Nat → Int32} {M : j_M} {d lo pc : Nat} {lv : j_L} {st : List Value} {h h' : j_H} {r : Option Value}
/-- what the tables say of a field's use: the class's own entry idx is the field k of the class ci -/
def j_fo (own : String) (idx ci k : Nat) : Prop := ∃ (C : String) (T : u_T) (N : Nat), j_cl[ci]? = some (C, T, N) ∧ k < N ∧ (∀ w ∈ u_ws C T N, w ∈ j_all) ∧ Cond.fieldLink own idx C (T k).2.1 (T k).2.2.1 ∈ j_all ∧ (T k).1 = C
theorem rn_getfield {idx ci k a : Nat} {fs : List Value} {v : Value} (hd : decode M.2.1 pc = .ok (.getfield idx, 3)) (hf : j_fo M.1.cls idx ci k) (he : h.1[a]? = some (.inr (ci, fs))) (hv : fs[k]? = some v)
    (kk : Rn l D ad tc L xs M d lo (pc + 3) lv (v :: st) h r h') : Rn l D ad tc L xs M d lo pc lv (.ref (a + 1) :: st) h r h' := by
  refine rn_pure (fun p e R s m args below meth c H locs cells slots ls Q hF hd1 hd2 hl hP hS kw => ?_) kk
  obtain ⟨C, T, N, f1, f2, f3, f4, f5⟩ := hf
  obtain ⟨hx, hb, hml, hown, hts, hkw, hK, hX, hbl, hn, hinj, hxw⟩ := hF
  exact va_get (D := D) (cl := j_cl) (tys := j_tys tc) (ws := j_w ad tc h.1) (ci := ci) (fs := fs.map (j_v ad)) hx hb hts f3 hown hK hP.1 a (j_w_get he) f1 k f2 (hts _ f4) (fun x hx2 => by rw [f5] at hx2; exact hx2) (by rw [List.getElem?_map, hv]; rfl) hd kw
/-- .. and to write it -/
def j_fp (own : String) (idx ci k : Nat) (ty : FieldType) : Prop := ∃ (C : String) (T : u_T) (N : Nat) (ty0 : Nat → FieldType), j_cl[ci]? = some (C, T, N) ∧ k < N ∧ (∀ w ∈ u_ws C T N, w ∈ j_all) ∧ Cond.fieldLink own idx C (T k).2.1 (T k).2.2.1 ∈ j_all ∧ (T k).1 = C ∧ (∀ k, k < N → parseFieldDescriptor (T k).2.2.1 = some (ty0 k)) ∧ (∀ a, a < N → ∀ b, b < N → a ≠ b → (T a).2.1 ≠ (T b).2.1) ∧ ty0 k = ty ∧ ((T k).2.2.2 = false ∨ (T k).2.2.2 = true ∧ C = own)
theorem rn_putfield {idx ci k a : Nat} {fs : List Value} {v : Value} {ty : FieldType} (hd : decode M.2.1 pc = .ok (.putfield idx, 3)) (hf : j_fp M.1.cls idx ci k ty) (he : h.1[a]? = some (.inr (ci, fs))) (hk : k < fs.length) (hn : ∀ ad, narrow ty (j_v ad v) = j_v ad v ∧ fits ty (j_v ad v) = true) (hi : M.1.name = "<init>" ∨ ∃ C T N, j_cl[ci]? = some (C, T, N) ∧ (T k).2.2.2 = false)
    (kk : Rn l D ad tc L xs M d lo (pc + 3) lv st (h.1.set a (.inr (ci, fs.set k v)), h.2) r h') : Rn l D ad tc L xs M d lo pc lv (v :: .ref (a + 1) :: st) h r h' := by
  refine rn_cell (h2 := (h.1.set a (.inr (ci, fs.set k v)), h.2)) (by simp) rfl (fun p e R s m args below meth c H locs cells slots ls Q hF hl hP hS kw => ?_) kk
  obtain ⟨C, T, N, ty0, f1, f2, f3, f4, f5, f6, f7, f8, f9⟩ := hf
  obtain ⟨hx, hb, hml, hown, hts, hkw, hK, hX, hbl, hnm, hinj, hxw⟩ := hF
  have hlen : k < (fs.map (j_v ad)).length := by rw [List.length_map]; exact hk
  have go : ∀ (H1 : Heap) (locs1 : List Loc), va_P D j_cl ((j_w ad tc h.1).set a (ad (a + 1), .inr (ci, (fs.map (j_v ad)).set k (j_v ad v)))) H1 → va_D (j_A ad) ((j_w ad tc h.1).set a (ad (a + 1), .inr (ci, (fs.map (j_v ad)).set k (j_v ad v)))) → va_S (j_A ad) s.heap H1 locs1 → H1.size = H.size → W p l e R s m args below meth c H1 locs1 cells slots Q (F0 m (pc + 3) ls (st.map (j_v ad))) := by
    intro H1 locs1 hP1 _ hS1 hz
    refine kw H1 locs1 ⟨?_, fun j => ?_⟩ hS1
    · have e := j_w_set (ad := ad) (tc := tc) (G := h.1) (k := a) (c := .inr (ci, fs.set k v))
      rw [show j_c ad tc (.inr (ci, fs.set k v)) = .inr (ci, (fs.map (j_v ad)).set k (j_v ad v)) by show Sum.inr (ci, (fs.set k v).map (j_v ad)) = _; rw [List.map_set]] at e
      rw [← e]
      exact hP1
    · rw [List.length_set, hz]
      exact hP.2 j
  have hap := va_apart (own := M.1.cls) hts f3 ty0 f6 f7 hK f1
  obtain ⟨r0, h1, cell, q1, q2, q3, q4⟩ := hP.1 a _ (j_w_get he)
  have hr : r0 = (C, T, N) := Option.some.inj (h1.symm.trans f1)
  subst hr
  obtain ⟨hSl, hfc, kC, hkC, hkind⟩ := hK.1 ci _ f1
  obtain ⟨cf, kf, fi, f, hi2, hsl⟩ := hSl k f2
  have hlay := hts _ (f3 _ (u_in_lay f2))
  have hst := (u_facts hfc hkC (u_lays hts f3 f2) hi2).1
  have hpd := f6 k f2
  rw [f8] at hpd
  rcases hfl : (T k).2.2.2 with _ | _
  · unfold u_lay at hlay
    rw [if_neg (by rw [hfl]; decide)] at hlay
    have h6 := u_store hfc hkC hkind hlay hi2 hpd (hn ad).1 (hn ad).2
    refine W.putK hx hb (f := f) ⟨hown, hts _ f4, ⟨_, _, _, (by rw [f5] at hi2; exact hi2)⟩, hst⟩ (by rw [q2]; exact h6) q1 q3 (by rw [hsl]; exact k2_hasslot (q4 k f2)) rfl rfl hd fun H' e1 e2 e3 => ?_
    rw [hsl] at e1 ⊢
    exact go H' _ (hP.1.set (j_D hinj) (j_w_get he) ⟨_, f1, t_OB.to (V := updV (vp_V (fs.map (j_v ad))) k (j_v ad v)) ⟨_, e1, q2, q3, t_set q4 hap f2 _⟩ (fun j _ => vp_updV_set hlen _ j)⟩ e3) ((j_D hinj).set (j_w_get he)) (hS.put e2 e3 ⟨a, rfl⟩) e2
  · have hini : M.1.name = "<init>" := by
      rcases hi with hi | ⟨C', T', N', g1, g2⟩
      · exact hi
      · cases g1.symm.trans f1
        rw [hfl] at g2
        cases g2
    have hco : C = M.1.cls := by
      rcases f9 with f9 | f9
      · rw [hfl] at f9; cases f9
      · exact f9.2
    unfold u_lay at hlay
    rw [if_pos hfl] at hlay
    have hcf : m.cls = cf := by
      obtain ⟨_, _, c', _, _, _, -, -, hf', -, -, -, hown2, -⟩ := Cond.laysFinal_spec hlay
      have e1 : c' = cf := by have := hi2.symm.trans hf'; simp at this; exact this.1.symm
      rw [f5, hco] at hown2
      rw [← e1]; exact Option.some.inj (hown.symm.trans hown2)
    have h6 := u_fits hfc hkC hkind (Or.inr hlay) hi2 hpd (hn ad).1 (hn ad).2
    refine W.putFinK hx hb hown (hts _ f4) (by rw [f5] at hi2; exact hi2) hst hcf ((hnm hini).trans hini) (by rw [q2]; exact h6) q1 q3 (by rw [hsl]; exact k2_hasslot (q4 k f2)) rfl rfl hd fun H' e1 e2 e3 => ?_
    rw [hsl] at e1 ⊢
    exact go H' _ (hP.1.set (j_D hinj) (j_w_get he) ⟨_, f1, t_OB.to (V := updV (vp_V (fs.map (j_v ad))) k (j_v ad v)) ⟨_, e1, q2, q3, t_set q4 hap f2 _⟩ (fun j _ => vp_updV_set hlen _ j)⟩ e3) ((j_D hinj).set (j_w_get he)) (hS.put e2 e3 ⟨a, rfl⟩) e2
end J3
section J4
variable {l : Launch} {D : va_G} {ad : Nat → Nat} {tc : Nat → ClassId} {L : Nat} {xs : Nat → Int32} {M : j_M} {d lo pc : Nat} {lv : j_L} {st : List Value} {h h' : j_H} {r : Option Value}
theorem rn_iaload {a t n : Nat} {f : Nat → Int32} {i : Int32} (hd : decode M.2.1 pc = .ok (.iaload, 1)) (he : h.1[a]? = some (.inl (t, n, .inl f))) (ht : j_ty[t]? = some .int) (hin : vp_in i n)
    (kk : Rn l D ad tc L xs M d lo (pc + 1) lv (.int (f i.toNatClampNeg) :: st) h r h') : Rn l D ad tc L xs M d lo pc lv (.int i :: .ref (a + 1) :: st) h r h' :=
  rn_pure (fun p e R s m args below meth c H locs cells slots ls Q hF hd1 hd2 hl hP hS kw => va_iald hF.1 hF.2.1 hF.2.2.2.2.2.2.1 hP.1 a t (j_w_get he) (j_ty_at ht) hin hd kw) kk
theorem rn_faload {a t n : Nat} {f : Nat → UInt32} {i : Int32} (hd : decode M.2.1 pc = .ok (.faload, 1)) (he : h.1[a]? = some (.inl (t, n, .inr (.inr (.inl f))))) (ht : j_ty[t]? = some .float) (hin : vp_in i n)
    (kk : Rn l D ad tc L xs M d lo (pc + 1) lv (.float (f i.toNatClampNeg) :: st) h r h') : Rn l D ad tc L xs M d lo pc lv (.int i :: .ref (a + 1) :: st) h r h' :=
  rn_pure (fun p e R s m args below meth c H locs cells slots ls Q hF hd1 hd2 hl hP hS kw => va_fald hF.1 hF.2.1 hF.2.2.2.2.2.2.1 hP.1 a t (j_w_get he) (j_ty_at ht) hin hd kw) kk
theorem rn_daload {a t n : Nat} {f : Nat → UInt64} {i : Int32} (hd : decode M.2.1 pc = .ok (.daload, 1)) (he : h.1[a]? = some (.inl (t, n, .inr (.inr (.inr (.inl f)))))) (ht : j_ty[t]? = some .double) (hin : vp_in i n)
    (kk : Rn l D ad tc L xs M d lo (pc + 1) lv (.double (f i.toNatClampNeg) :: st) h r h') : Rn l D ad tc L xs M d lo pc lv (.int i :: .ref (a + 1) :: st) h r h' :=
  rn_pure (fun p e R s m args below meth c H locs cells slots ls Q hF hd1 hd2 hl hP hS kw => va_dald hF.1 hF.2.1 hF.2.2.2.2.2.2.1 hP.1 a t (j_w_get he) (j_ty_at ht) hin hd kw) kk
theorem rn_laload {a t n : Nat} {f : Nat → Int64} {i : Int32} (hd : decode M.2.1 pc = .ok (.laload, 1)) (he : h.1[a]? = some (.inl (t, n, .inr (.inl f)))) (ht : j_ty[t]? = some .long) (hin : vp_in i n)
    (kk : Rn l D ad tc L xs M d lo (pc + 1) lv (.long (f i.toNatClampNeg) :: st) h r h') : Rn l D ad tc L xs M d lo pc lv (.int i :: .ref (a + 1) :: st) h r h' :=
  rn_pure (fun p e R s m args below meth c H locs cells slots ls Q hF hd1 hd2 hl hP hS kw => va_lald hF.1 hF.2.1 hF.2.2.2.2.2.2.1 hP.1 a t (j_w_get he) (j_ty_at ht) hin hd kw) kk
theorem rn_aaload {a t n b : Nat} {f : Nat → Option Nat} {C : String} {i : Int32} (hd : decode M.2.1 pc = .ok (.aaload, 1)) (he : h.1[a]? = some (.inl (t, n, .inr (.inr (.inr (.inr f)))))) (ht : j_ty[t]? = some (.object C)) (hin : vp_in i n) (hv : f i.toNatClampNeg = some b)
    (kk : Rn l D ad tc L xs M d lo (pc + 1) lv (.ref b :: st) h r h') : Rn l D ad tc L xs M d lo pc lv (.int i :: .ref (a + 1) :: st) h r h' :=
  rn_pure (fun p e R s m args below meth c H locs cells slots ls Q hF hd1 hd2 hl hP hS kw => va_aldq (f := j_f ad f) hF.1 hF.2.1 hF.2.2.2.2.2.2.1 hP.1 a t (j_w_get he) (j_ty_at ht) hin hd (by
    rw [show va_rf (j_f ad f i.toNatClampNeg) = .ref (ad b) by simp [j_f, hv, va_rf]]
    exact kw)) kk
theorem rn_alen {a t : Nat} {x : vp_A} {v : Int32} {ty : FieldType} (hd : decode M.2.1 pc = .ok (.arraylength, 1)) (he : h.1[a]? = some (.inl (t, x))) (ht : j_ty[t]? = some ty) (hv : Int32.ofNat x.1 = v)
    (kk : Rn l D ad tc L xs M d lo (pc + 1) lv (.int v :: st) h r h') : Rn l D ad tc L xs M d lo pc lv (.ref (a + 1) :: st) h r h' :=
  rn_pure (fun p e R s m args below meth c H locs cells slots ls Q hF hd1 hd2 hl hP hS kw => by
    obtain ⟨n, f | f | f | f | f⟩ := x
    · exact va_alen hF.1 hF.2.1 hF.2.2.2.2.2.2.1 hP.1 a t (x := (n, .inl f)) (j_w_get he) (j_ty_at ht) hv hd kw
    · exact va_alen hF.1 hF.2.1 hF.2.2.2.2.2.2.1 hP.1 a t (x := (n, .inr (.inl f))) (j_w_get he) (j_ty_at ht) hv hd kw
    · exact va_alen hF.1 hF.2.1 hF.2.2.2.2.2.2.1 hP.1 a t (x := (n, .inr (.inr (.inl f)))) (j_w_get he) (j_ty_at ht) hv hd kw
    · exact va_alen hF.1 hF.2.1 hF.2.2.2.2.2.2.1 hP.1 a t (x := (n, .inr (.inr (.inr (.inl f))))) (j_w_get he) (j_ty_at ht) hv hd kw
    · exact va_alen hF.1 hF.2.1 hF.2.2.2.2.2.2.1 hP.1 a t (x := (n, .inr (.inr (.inr (.inr (j_f ad f)))))) (j_w_get he) (j_ty_at ht) hv hd kw) kk
/-- the script is the reference 0 -/
theorem rn_sld {i : Int32} (hd : decode M.2.1 pc = .ok (.iaload, 1)) (hin : vp_in i L) (kk : Rn l D ad tc L xs M d lo (pc + 1) lv (.int (xs i.toNatClampNeg) :: st) h r h') : Rn l D ad tc L xs M d lo pc lv (.int i :: .ref 0 :: st) h r h' :=
  rn_pure (fun p e R s m args below meth c H locs cells slots ls Q hF hd1 hd2 hl hP hS kw => va_sld hF.1 hF.2.1 hF.2.2.2.2.2.2.2.1 hF.2.2.2.2.2.2.2.2.1 (j_nA hF.2.2.2.2.2.2.2.2.2.2.1) hS hin hd kw) kk
theorem rn_slen (hd : decode M.2.1 pc = .ok (.arraylength, 1)) (kk : Rn l D ad tc L xs M d lo (pc + 1) lv (.int (Int32.ofNat L) :: st) h r h') : Rn l D ad tc L xs M d lo pc lv (.ref 0 :: st) h r h' :=
  rn_pure (fun p e R s m args below meth c H locs cells slots ls Q hF hd1 hd2 hl hP hS kw => va_slen hF.1 hF.2.1 hF.2.2.2.2.2.2.2.1 hF.2.2.2.2.2.2.2.2.1 (j_nA hF.2.2.2.2.2.2.2.2.2.2.1) hS hd kw) kk
theorem rn_iastore {a t n : Nat} {f : Nat → Int32} {i : Int32} {x : Int32} (hd : decode M.2.1 pc = .ok (.iastore, 1)) (he : h.1[a]? = some (.inl (t, n, .inl f))) (ht : j_ty[t]? = some .int) (hin : vp_in i n)
    (kk : Rn l D ad tc L xs M d lo (pc + 1) lv st (h.1.set a (.inl (t, n, .inl (upd f i.toNatClampNeg x))), h.2) r h') : Rn l D ad tc L xs M d lo pc lv (.int x :: .int i :: .ref (a + 1) :: st) h r h' :=
  rn_cell (h2 := (h.1.set a (.inl (t, n, .inl (upd f i.toNatClampNeg x))), h.2)) (by simp) rfl (fun p e R s m args below meth c H locs cells slots ls Q hF hl hP hS kw => by
    refine W.iast hF.1 hF.2.1 (hP.1 a _ (j_w_get he)) ((hF.2.2.2.2.2.2.1.2 t _ (j_ty_at ht)).1 n (fun j => .int (f j))) (fun q => by cases q) (by show ¬ (i < 0 ∨ (arrV _ _ _).slots.size ≤ _); rw [arrV_size]; exact hin) rfl rfl hd fun H1 e1 z oq => ?_
    refine kw H1 _ ⟨?_, fun j => by rw [List.length_set, z]; exact hP.2 j⟩ (hS.put z oq ⟨a, rfl⟩)
    have hset := hP.1.set (j_D hF.2.2.2.2.2.2.2.2.2.2.1) (j_w_get he) (e := .inl (tc t, n, .inl (upd f i.toNatClampNeg x))) (H1 := H1) ?_ oq
    · have e := j_w_set (ad := ad) (tc := tc) (G := h.1) (k := a) (c := .inl (t, n, .inl (upd f i.toNatClampNeg x)))
      rw [← e]
      exact hset
    · show H1[ad (a + 1)]? = some (vp_cell _ _)
      rw [e1, vp_cell_i]
      show some ((vp_cell (tc t) (n, .inl f)).setSlot _ _) = _
      rw [vp_cell_i, arrV_store]
      refine (congrArg (fun g => some (arrV (tc t) n g)) (funext fun q => ?_) : some (arrV (tc t) n (updV (fun j => .int (f j)) i.toNatClampNeg (.int x))) = some (arrV (tc t) n (fun j => .int ((upd f i.toNatClampNeg x) j))))
      by_cases hq : q = i.toNatClampNeg
      · subst hq
        simp [updV, upd]
      · simp [updV, upd, hq]) kk
theorem rn_lastore {a t n : Nat} {f : Nat → Int64} {i : Int32} {x : Int64} (hd : decode M.2.1 pc = .ok (.lastore, 1)) (he : h.1[a]? = some (.inl (t, n, .inr (.inl f)))) (ht : j_ty[t]? = some .long) (hin : vp_in i n)
    (kk : Rn l D ad tc L xs M d lo (pc + 1) lv st (h.1.set a (.inl (t, n, .inr (.inl (vp_updL f i.toNatClampNeg x)))), h.2) r h') : Rn l D ad tc L xs M d lo pc lv (.long x :: .int i :: .ref (a + 1) :: st) h r h' :=
  rn_cell (h2 := (h.1.set a (.inl (t, n, .inr (.inl (vp_updL f i.toNatClampNeg x)))), h.2)) (by simp) rfl (fun p e R s m args below meth c H locs cells slots ls Q hF hl hP hS kw => by
    refine W.last hF.1 hF.2.1 (hP.1 a _ (j_w_get he)) ((hF.2.2.2.2.2.2.1.2 t _ (j_ty_at ht)).1 n (fun j => .long (f j))) (fun q => by cases q) (by show ¬ (i < 0 ∨ (arrV _ _ _).slots.size ≤ _); rw [arrV_size]; exact hin) rfl rfl hd fun H1 e1 z oq => ?_
    refine kw H1 _ ⟨?_, fun j => by rw [List.length_set, z]; exact hP.2 j⟩ (hS.put z oq ⟨a, rfl⟩)
    have hset := hP.1.set (j_D hF.2.2.2.2.2.2.2.2.2.2.1) (j_w_get he) (e := .inl (tc t, n, .inr (.inl (vp_updL f i.toNatClampNeg x)))) (H1 := H1) ?_ oq
    · have e := j_w_set (ad := ad) (tc := tc) (G := h.1) (k := a) (c := .inl (t, n, .inr (.inl (vp_updL f i.toNatClampNeg x))))
      rw [← e]
      exact hset
    · show H1[ad (a + 1)]? = some (vp_cell _ _)
      rw [e1, vp_cell_l]
      show some ((vp_cell (tc t) (n, .inr (.inl f))).setSlot _ _) = _
      rw [vp_cell_l, arrV_store]
      refine (congrArg (fun g => some (arrV (tc t) n g)) (funext fun q => ?_) : some (arrV (tc t) n (updV (fun j => .long (f j)) i.toNatClampNeg (.long x))) = some (arrV (tc t) n (fun j => .long ((vp_updL f i.toNatClampNeg x) j))))
      by_cases hq : q = i.toNatClampNeg
      · subst hq
        simp [updV, vp_updL]
      · simp [updV, vp_updL, hq]) kk
theorem rn_fastore {a t n : Nat} {f : Nat → UInt32} {i : Int32} {x : UInt32} (hd : decode M.2.1 pc = .ok (.fastore, 1)) (he : h.1[a]? = some (.inl (t, n, .inr (.inr (.inl f))))) (ht : j_ty[t]? = some .float) (hin : vp_in i n)
    (kk : Rn l D ad tc L xs M d lo (pc + 1) lv st (h.1.set a (.inl (t, n, .inr (.inr (.inl (vf_upd f i.toNatClampNeg x))))), h.2) r h') : Rn l D ad tc L xs M d lo pc lv (.float x :: .int i :: .ref (a + 1) :: st) h r h' :=
  rn_cell (h2 := (h.1.set a (.inl (t, n, .inr (.inr (.inl (vf_upd f i.toNatClampNeg x))))), h.2)) (by simp) rfl (fun p e R s m args below meth c H locs cells slots ls Q hF hl hP hS kw => by
    refine W.fast hF.1 hF.2.1 (hP.1 a _ (j_w_get he)) ((hF.2.2.2.2.2.2.1.2 t _ (j_ty_at ht)).1 n (fun j => .float (f j))) (fun q => by cases q) (by show ¬ (i < 0 ∨ (arrV _ _ _).slots.size ≤ _); rw [arrV_size]; exact hin) rfl rfl hd fun H1 e1 z oq => ?_
    refine kw H1 _ ⟨?_, fun j => by rw [List.length_set, z]; exact hP.2 j⟩ (hS.put z oq ⟨a, rfl⟩)
    have hset := hP.1.set (j_D hF.2.2.2.2.2.2.2.2.2.2.1) (j_w_get he) (e := .inl (tc t, n, .inr (.inr (.inl (vf_upd f i.toNatClampNeg x))))) (H1 := H1) ?_ oq
    · have e := j_w_set (ad := ad) (tc := tc) (G := h.1) (k := a) (c := .inl (t, n, .inr (.inr (.inl (vf_upd f i.toNatClampNeg x)))))
      rw [← e]
      exact hset
    · show H1[ad (a + 1)]? = some (vp_cell _ _)
      rw [e1, vp_cell_f]
      show some ((vp_cell (tc t) (n, .inr (.inr (.inl f)))).setSlot _ _) = _
      rw [vp_cell_f, arrV_store]
      refine (congrArg (fun g => some (arrV (tc t) n g)) (funext fun q => ?_) : some (arrV (tc t) n (updV (fun j => .float (f j)) i.toNatClampNeg (.float x))) = some (arrV (tc t) n (fun j => .float ((vf_upd f i.toNatClampNeg x) j))))
      by_cases hq : q = i.toNatClampNeg
      · subst hq
        simp [updV, vf_upd]
      · simp [updV, vf_upd, hq]) kk
theorem rn_dastore {a t n : Nat} {f : Nat → UInt64} {i : Int32} {x : UInt64} (hd : decode M.2.1 pc = .ok (.dastore, 1)) (he : h.1[a]? = some (.inl (t, n, .inr (.inr (.inr (.inl f)))))) (ht : j_ty[t]? = some .double) (hin : vp_in i n)
    (kk : Rn l D ad tc L xs M d lo (pc + 1) lv st (h.1.set a (.inl (t, n, .inr (.inr (.inr (.inl (vf_upd f i.toNatClampNeg x)))))), h.2) r h') : Rn l D ad tc L xs M d lo pc lv (.double x :: .int i :: .ref (a + 1) :: st) h r h' :=
  rn_cell (h2 := (h.1.set a (.inl (t, n, .inr (.inr (.inr (.inl (vf_upd f i.toNatClampNeg x)))))), h.2)) (by simp) rfl (fun p e R s m args below meth c H locs cells slots ls Q hF hl hP hS kw => by
    refine W.dast hF.1 hF.2.1 (hP.1 a _ (j_w_get he)) ((hF.2.2.2.2.2.2.1.2 t _ (j_ty_at ht)).1 n (fun j => .double (f j))) (fun q => by cases q) (by show ¬ (i < 0 ∨ (arrV _ _ _).slots.size ≤ _); rw [arrV_size]; exact hin) rfl rfl hd fun H1 e1 z oq => ?_
    refine kw H1 _ ⟨?_, fun j => by rw [List.length_set, z]; exact hP.2 j⟩ (hS.put z oq ⟨a, rfl⟩)
    have hset := hP.1.set (j_D hF.2.2.2.2.2.2.2.2.2.2.1) (j_w_get he) (e := .inl (tc t, n, .inr (.inr (.inr (.inl (vf_upd f i.toNatClampNeg x)))))) (H1 := H1) ?_ oq
    · have e := j_w_set (ad := ad) (tc := tc) (G := h.1) (k := a) (c := .inl (t, n, .inr (.inr (.inr (.inl (vf_upd f i.toNatClampNeg x))))))
      rw [← e]
      exact hset
    · show H1[ad (a + 1)]? = some (vp_cell _ _)
      rw [e1, vp_cell_d]
      show some ((vp_cell (tc t) (n, .inr (.inr (.inr (.inl f))))).setSlot _ _) = _
      rw [vp_cell_d, arrV_store]
      refine (congrArg (fun g => some (arrV (tc t) n g)) (funext fun q => ?_) : some (arrV (tc t) n (updV (fun j => .double (f j)) i.toNatClampNeg (.double x))) = some (arrV (tc t) n (fun j => .double ((vf_upd f i.toNatClampNeg x) j))))
      by_cases hq : q = i.toNatClampNeg
      · subst hq
        simp [updV, vf_upd]
      · simp [updV, vf_upd, hq]) kk
end J4
