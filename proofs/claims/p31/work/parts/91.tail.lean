/-! cells in two pieces: G, whatever they are, and T behind them -/
theorem gt_at {G T : List j_C} {a i : Nat} {c : j_C} (ha : G.length = a) (h : T[i]? = some c) : (G ++ T)[a + i]? = some c := by
  rw [List.getElem?_append_right (by omega), show a + i - G.length = i by omega]
  exact h
theorem gt_set {G T : List j_C} {a i : Nat} {y : j_C} (ha : G.length = a) : (G ++ T).set (a + i) y = G ++ T.set i y := by
  rw [List.set_append_right _ _ (by omega), show a + i - G.length = i by omega]
section GT
variable {l : Launch} {D : va_G} {ad : Nat → Nat} {tc : Nat → ClassId} {L : Nat} {xs : Nat → Int32} {M : j_M} {d lo pc : Nat} {lv : j_L} {st : List Value} {h' : j_H} {r : Option Value} {G T : List j_C} {a i sl : Nat}
/-- the cells, said otherwise -/
theorem rn_h {h h2 : j_H} (e : h = h2) (k : Rn l D ad tc L xs M d lo pc lv st h2 r h') : Rn l D ad tc L xs M d lo pc lv st h r h' := e ▸ k
theorem rn_st {st2 : List Value} {h : j_H} (e : st = st2) (k : Rn l D ad tc L xs M d lo pc lv st2 h r h') : Rn l D ad tc L xs M d lo pc lv st h r h' := e ▸ k
theorem rnT_get {idx ci k : Nat} {fs : List Value} {v : Value} (ha : G.length = a) (hd : decode M.2.1 pc = .ok (.getfield idx, 3)) (hf : j_fo M.1.cls idx ci k) (he : T[i]? = some (.inr (ci, fs))) (hv : fs[k]? = some v)
    (kk : Rn l D ad tc L xs M d lo (pc + 3) lv (v :: st) (G ++ T, sl) r h') : Rn l D ad tc L xs M d lo pc lv (.ref (a + i + 1) :: st) (G ++ T, sl) r h' := rn_getfield hd hf (gt_at ha he) hv kk
theorem rnT_put {idx ci k : Nat} {fs : List Value} {v : Value} {ty : FieldType} (ha : G.length = a) (hd : decode M.2.1 pc = .ok (.putfield idx, 3)) (hf : j_fp M.1.cls idx ci k ty) (he : T[i]? = some (.inr (ci, fs))) (hk : k < fs.length) (hn : ∀ ad, narrow ty (j_v ad v) = j_v ad v ∧ fits ty (j_v ad v) = true) (hi : M.1.name = "<init>" ∨ ∃ C T N, j_cl[ci]? = some (C, T, N) ∧ (T k).2.2.2 = false)
    (kk : Rn l D ad tc L xs M d lo (pc + 3) lv st (G ++ T.set i (.inr (ci, fs.set k v)), sl) r h') : Rn l D ad tc L xs M d lo pc lv (v :: .ref (a + i + 1) :: st) (G ++ T, sl) r h' := by
  refine rn_putfield hd hf (gt_at ha he) hk hn hi ?_
  rw [gt_set ha]
  exact kk
theorem rnT_new {idx ci t : Nat} {fs : List Value} (ha : G.length = a) (ht : T.length = t) (hd : decode M.2.1 pc = .ok (.new idx, 3)) (hn : j_no M.1.cls idx ci fs)
    (kk : Rn l D ad tc L xs M d lo (pc + 3) lv (.ref (a + t + 1) :: st) (G ++ (T ++ [.inr (ci, fs)]), sl + fs.length) r h') : Rn l D ad tc L xs M d lo pc lv st (G ++ T, sl) r h' := by
  refine rn_new hd hn ?_
  rw [List.length_append, ha, ht, List.append_assoc]
  exact kk
theorem rnT_newarr {atype : ArrayType} {t N u : Nat} {n : Int32} {f : vp_A} (ha : G.length = a) (hu : T.length = u) (hd : decode M.2.1 pc = .ok (.newarray atype, 2)) (ht : j_ty[t]? = some (newarray.typeOf atype)) (hw : Cond.arrayClass (newarray.typeOf atype) ∈ j_all) (hn : ¬ n < 0) (hN : n.toNatClampNeg = N) (hby : N * componentBytes (newarray.typeOf atype) ≤ 536870912)
    (hf : ∀ cA : ClassId, vp_cell cA f = arrV cA N (fun _ => defaultValue (newarray.typeOf atype))) (hj : ∀ ad tc, j_c ad tc (.inl (t, f)) = .inl (tc t, f))
    (kk : Rn l D ad tc L xs M d lo (pc + 2) lv (.ref (a + u + 1) :: st) (G ++ (T ++ [.inl (t, f)]), sl + N) r h') : Rn l D ad tc L xs M d lo pc lv (.int n :: st) (G ++ T, sl) r h' := by
  refine rn_newarray hd ht hw hn hN hby hf hj ?_
  rw [List.length_append, ha, hu, List.append_assoc]
  exact kk
theorem rnT_anew {C : String} {idx t N u : Nat} {n : Int32} (ha : G.length = a) (hu : T.length = u) (hd : decode M.2.1 pc = .ok (.anewarray idx, 3)) (ht : j_ty[t]? = some (.object C)) (hw : Cond.classLink M.1.cls idx C ∈ j_all) (ho : C ∈ j_ao) (hn : ¬ n < 0) (hN : n.toNatClampNeg = N) (hby : N * 4 ≤ 536870912)
    (kk : Rn l D ad tc L xs M d lo (pc + 3) lv (.ref (a + u + 1) :: st) (G ++ (T ++ [.inl (t, N, .inr (.inr (.inr (.inr (fun _ => none)))))]), sl + N) r h') : Rn l D ad tc L xs M d lo pc lv (.int n :: st) (G ++ T, sl) r h' := by
  refine rn_anewarray hd ht hw ho hn hN hby ?_
  rw [List.length_append, ha, hu, List.append_assoc]
  exact kk
theorem rnT_aastore {t n v ci : Nat} {f : Nat → Option Nat} {q : vw_C} {vs : List Value} {x : Int32} (ha : G.length = a) (hd : decode M.2.1 pc = .ok (.aastore, 1)) (he : T[i]? = some (.inl (t, n, .inr (.inr (.inr (.inr f)))))) (hc : j_cl[ci]? = some q) (ht : j_ty[t]? = some (.object q.1)) (hv : T[v]? = some (.inr (ci, vs))) (hin : vp_in x n)
    (kk : Rn l D ad tc L xs M d lo (pc + 1) lv st (G ++ T.set i (.inl (t, n, .inr (.inr (.inr (.inr (va_up f x.toNatClampNeg (some (a + v + 1)))))))), sl) r h') : Rn l D ad tc L xs M d lo pc lv (.ref (a + v + 1) :: .int x :: .ref (a + i + 1) :: st) (G ++ T, sl) r h' := by
  refine rn_aastore hd (gt_at ha he) hc ht (gt_at ha hv) hin ?_
  rw [gt_set ha]
  exact kk
theorem rnT_aaload {t n b : Nat} {f : Nat → Option Nat} {C : String} {x : Int32} (ha : G.length = a) (hd : decode M.2.1 pc = .ok (.aaload, 1)) (he : T[i]? = some (.inl (t, n, .inr (.inr (.inr (.inr f)))))) (ht : j_ty[t]? = some (.object C)) (hin : vp_in x n) (hv : f x.toNatClampNeg = some b)
    (kk : Rn l D ad tc L xs M d lo (pc + 1) lv (.ref b :: st) (G ++ T, sl) r h') : Rn l D ad tc L xs M d lo pc lv (.int x :: .ref (a + i + 1) :: st) (G ++ T, sl) r h' := rn_aaload hd (gt_at ha he) ht hin hv kk
theorem rnT_iastore {t n : Nat} {f : Nat → Int32} {j x : Int32} (ha : G.length = a) (hd : decode M.2.1 pc = .ok (.iastore, 1)) (he : T[i]? = some (.inl (t, n, .inl f))) (ht : j_ty[t]? = some .int) (hin : vp_in j n)
    (kk : Rn l D ad tc L xs M d lo (pc + 1) lv st (G ++ T.set i (.inl (t, n, .inl (upd f j.toNatClampNeg x))), sl) r h') : Rn l D ad tc L xs M d lo pc lv (.int x :: .int j :: .ref (a + i + 1) :: st) (G ++ T, sl) r h' := by
  refine rn_iastore hd (gt_at ha he) ht hin ?_
  rw [gt_set ha]
  exact kk
end GT
