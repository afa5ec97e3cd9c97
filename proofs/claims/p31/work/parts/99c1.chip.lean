/-! the law's chip: rows of int rows at the end of the cells -/
section CH
variable {l : Launch} {D : va_G} {ad : Nat → Nat} {tc : Nat → ClassId} {L : Nat} {xs : Nat → Int32} {M : j_M} {d lo pc : Nat} {lv : j_L} {st : List Value} {h' : j_H} {r : Option Value} {S : jS} {E : List j_C} {sl a n : Nat} {f : Nat → Int32} {i x : Int32}
theorem la_at {E : List j_C} {c : j_C} : (E ++ [c])[E.length]? = some c := by simp
theorem la_set {E : List j_C} {c c' : j_C} : (E ++ [c]).set E.length c' = E ++ [c'] := by simp
theorem rnQ_ias {q : Nat} (hd : decode M.2.1 pc = .ok (.iastore, 1)) (he : E[q]? = some (.inl (0, n, .inl f))) (hin : vp_in i n)
    (kk : Rn l D ad tc L xs M d lo (pc + 1) lv st (wd S (E.set q (.inl (0, n, .inl (upd f i.toNatClampNeg x)))), sl) r h') : Rn l D ad tc L xs M d lo pc lv (.int x :: .int i :: .ref (q + 84 + 1) :: st) (wd S E, sl) r h' := by
  refine rn_iastore (h := (wd S E, sl)) (a := q + 84) hd (wd_at2 he) rfl hin ?_
  show Rn l D ad tc L xs M d lo (pc + 1) lv st ((wd S E).set (q + 84) _, sl) r h'
  rw [wd_set2]
  exact kk
theorem rnL_ias (ha : E.length + 85 = a) (hd : decode M.2.1 pc = .ok (.iastore, 1)) (hin : vp_in i n)
    (kk : Rn l D ad tc L xs M d lo (pc + 1) lv st (wd S (E ++ [.inl (0, n, .inl (upd f i.toNatClampNeg x))]), sl) r h') : Rn l D ad tc L xs M d lo pc lv (.int x :: .int i :: .ref a :: st) (wd S (E ++ [.inl (0, n, .inl f)]), sl) r h' := by
  subst ha
  exact rnQ_ias (q := E.length) hd la_at hin (by rw [la_set]; exact kk)
theorem rnL_iald (ha : E.length + 85 = a) (hd : decode M.2.1 pc = .ok (.iaload, 1)) (hin : vp_in i n)
    (kk : Rn l D ad tc L xs M d lo (pc + 1) lv (.int (f i.toNatClampNeg) :: st) (wd S (E ++ [.inl (0, n, .inl f)]), sl) r h') : Rn l D ad tc L xs M d lo pc lv (.int i :: .ref a :: st) (wd S (E ++ [.inl (0, n, .inl f)]), sl) r h' := by
  subst ha
  exact rn_iaload (h := (wd S (E ++ [.inl (0, n, .inl f)]), sl)) (a := E.length + 84) hd (wd_at2 la_at) rfl hin kk
theorem rnL_new {m : Int32} (ha : E.length + 85 = a) (hd : decode M.2.1 pc = .ok (.newarray .int, 2)) (hn : ¬ m < 0) (hN : m.toNatClampNeg = n) (hby : n * 4 ≤ 536870912)
    (kk : Rn l D ad tc L xs M d lo (pc + 2) lv (.ref a :: st) (wd S (E ++ [.inl (0, n, .inl (fun _ => 0))]), sl + n) r h') : Rn l D ad tc L xs M d lo pc lv (.int m :: st) (wd S E, sl) r h' := by
  subst ha
  refine rn_newarray (t := 0) (N := n) (f := (n, .inl (fun _ => 0))) hd rfl wd_210 hn hN hby (fun _ => rfl) (fun _ _ => rfl) ?_
  show Rn l D ad tc L xs M d lo (pc + 2) lv (.ref ((wd S E).length + 1) :: st) (wd S E ++ [.inl (0, n, .inl (fun _ => 0))], sl + n) r h'
  rw [wd_app, wd_len, show 84 + E.length + 1 = E.length + 85 by omega]
  exact kk
/-- an entry of a row that stands among the others -/
theorem rnE_ias {q : Nat} (hd : decode M.2.1 pc = .ok (.iastore, 1)) (he : E[q]? = some (rwC f)) (hin : vp_in i 7)
    (kk : Rn l D ad tc L xs M d lo (pc + 1) lv st (wd S (E.set q (rwC (upd f i.toNatClampNeg x))), sl) r h') : Rn l D ad tc L xs M d lo pc lv (.int x :: .int i :: .ref (q + 84 + 1) :: st) (wd S E, sl) r h' := by
  refine rn_iastore (h := (wd S E, sl)) (a := q + 84) hd (wd_at2 he) rfl hin ?_
  show Rn l D ad tc L xs M d lo (pc + 1) lv st ((wd S E).set (q + 84) _, sl) r h'
  rw [wd_set2]
  exact kk
theorem rnE_iald {q : Nat} (hd : decode M.2.1 pc = .ok (.iaload, 1)) (he : E[q]? = some (rwC f)) (hin : vp_in i 7)
    (kk : Rn l D ad tc L xs M d lo (pc + 1) lv (.int (f i.toNatClampNeg) :: st) (wd S E, sl) r h') : Rn l D ad tc L xs M d lo pc lv (.int i :: .ref (q + 84 + 1) :: st) (wd S E, sl) r h' :=
  rn_iaload (h := (wd S E, sl)) (a := q + 84) hd (wd_at2 he) rfl hin kk
theorem rnE_aald {k n : Nat} (hR : RWs S E n) (hk : k < n) (hn : n ≤ 11) (hd : decode M.2.1 pc = .ok (.aaload, 1))
    (kk : Rn l D ad tc L xs M d lo (pc + 1) lv (.ref (2 * k + 2 + 84 + 1) :: st) (wd S E, sl) r h') : Rn l D ad tc L xs M d lo pc lv (.int (nI k) :: .ref 85 :: st) (wd S E, sl) r h' :=
  rn_aaloadI (a := 0 + 84) hd (wd_at2 hR.1) (vp_in_nI (by omega) (by decide)) (by rw [nI_clamp (by omega)]; exact if_pos hk) kk
theorem mkF_up {k : Nat} : va_up (mkF k) k (some (2 * k + 2 + 84 + 1)) = mkF (k + 1) := by
  funext j
  unfold va_up mkF
  by_cases h : j = k
  · subst h
    rw [if_pos rfl, if_pos (by omega)]
  · rw [if_neg h]
    by_cases h2 : j < k
    · rw [if_pos h2, if_pos (by omega)]
    · rw [if_neg h2, if_neg (by omega)]
theorem RWs_set {k i : Nat} {f f' : Nat → Int32} (h : RWs S E k) (hi : i < k) (he : E[2 * i + 2]? = some (rwC f)) (h0 : f' 0 = f 0) (h3 : f' 3 = f 3) : RWs S (E.set (2 * i + 2) (rwC f')) k := by
  refine ⟨?_, fun j hj => ?_⟩
  · rw [List.getElem?_set_ne (by omega)]
    exact h.1
  · obtain ⟨p, p1, p2, p3⟩ := h.2 j hj
    by_cases e : i = j
    · subst e
      have hpf : p = f := by
        have := Option.some.inj (p1.symm.trans he)
        unfold rwC at this
        simpa using this
      subst hpf
      refine ⟨f', ?_, h0.trans p2, fun q => ⟨h3.trans (p3 q).1, (p3 q).2⟩⟩
      rw [List.getElem?_set_self (List.getElem?_eq_some_iff.mp he).1]
    · refine ⟨p, ?_, p2, p3⟩
      rw [List.getElem?_set_ne (by omega)]
      exact p1
theorem RWs_KS {S' : jS} {k m : Nat} (h : RWs S E k) (hk : KS S S' m) (hm : k ≤ m) : RWs S' E k := by
  refine ⟨h.1, fun j hj => ?_⟩
  obtain ⟨p, p1, p2, p3⟩ := h.2 j hj
  have q := hk j (by omega)
  exact ⟨p, p1, by rw [q.1]; exact p2, fun z => by rw [q.2]; exact p3 (q.1.symm.trans z)⟩
theorem RWs_new {S' : jS} {k : Nat} {c : j_C} {f : Nat → Int32} (h : RWs S E k) (hE : E.length = 2 * k + 1) (hk : KS S S' k) (h0 : f 0 = kd S' k) (h3 : kd S' k = 7 → f 3 = nI (sV S' k) ∧ sV S' k < 3) : RWs S' (((E ++ [c]) ++ [rwC f]).set 0 (mdC (k + 1))) (k + 1) := by
  have hl : (E ++ [c]).length = 2 * k + 2 := by simp [hE]
  refine ⟨?_, fun j hj => ?_⟩
  · rw [List.getElem?_set_self (by simp)]
  · rw [List.getElem?_set_ne (by omega)]
    by_cases e : j = k
    · subst e
      refine ⟨f, ?_, h0, h3⟩
      rw [← hl]
      exact la_at
    · obtain ⟨p, p1, p2, p3⟩ := (RWs_app (T := [c] ++ [rwC f]) h).2 j (by omega)
      have q := hk j (by omega)
      exact ⟨p, by rw [List.append_assoc]; exact p1, by rw [q.1]; exact p2, fun z => by rw [q.2]; exact p3 (q.1.symm.trans z)⟩
/-- how chip goes on from a point: to rows of eleven nodes that are told -/
def Gc (l : Launch) (D : va_G) (ad : Nat → Nat) (tc : Nat → ClassId) (L : Nat) (xs : Nat → Int32) (sF : Nat) (pc : Nat) (lv : j_L) (st : List Value) (h : j_H) : Prop := ∃ S' E', (CI S' 11 0 1 3 ∧ RWs S' E' 11 ∧ E'.length = 23) ∧ Rn l D ad tc L xs mL_chip 6 130 pc lv st h (some (.ref 85)) (wd S' E', sF)
theorem Gc.of {sF pc2 : Nat} {lv2 : j_L} {st2 : List Value} {h h2 : j_H} (f : ∀ (r : Option Value) (h' : j_H), Rn l D ad tc L xs mL_chip 6 130 pc2 lv2 st2 h2 r h' → Rn l D ad tc L xs mL_chip 6 130 pc lv st h r h') (k : Gc l D ad tc L xs sF pc2 lv2 st2 h2) : Gc l D ad tc L xs sF pc lv st h := by
  obtain ⟨S', E', q, z⟩ := k
  exact ⟨S', E', q, f _ _ z⟩
end CH
