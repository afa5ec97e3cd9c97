/-! Chip's constructor -/
def clk0 : j_C := .inr (2, [.int 0, .int 0, .int 0, .int 0, .int 0])
def cor0 : j_C := .inr (3, [.double FP.dconst1, .double FP.dconst1])
def nod0 : j_C := .inr (5, [.int 0, .int (-1), .int (-1), .int (-1), .ref 7, .int 1, .float FP.fconst1, .int 0])
def rul0 : j_C := .inr (7, [.int 0, .int (-1), .int (-1)])
def chp0 : j_C := .inr (1, [.ref 3, .ref 4, .ref 5, .ref 6, .int 0, .int 1, .int 0, .int 0])
def chT (p q u v : Nat) : List j_C := chp0 :: .inl (3, 4, .inr (.inr (.inr (.inr (refs p 7))))) :: .inl (4, 3, .inr (.inr (.inr (.inr (refs q 11))))) :: .inl (5, 16, .inr (.inr (.inr (.inr (refs u 14))))) :: .inl (6, 6, .inr (.inr (.inr (.inr (refs v 30))))) :: (List.replicate p clk0 ++ (List.replicate q cor0 ++ (List.replicate u nod0 ++ List.replicate v rul0)))
theorem chT_len {p q u v : Nat} : (chT p q u v).length = 5 + (p + (q + (u + v))) := by simp [chT]; omega
theorem refs_0 {o : Nat} : refs 0 o = fun _ => none := funext fun j => if_neg (Nat.not_lt_zero j)
theorem refs_up {k o : Nat} : va_up (refs k o) k (some (k + o)) = refs (k + 1) o := by
  funext j
  unfold va_up refs
  by_cases h : j = k
  · subst h
    rw [if_pos rfl, if_pos (Nat.lt_succ_self j)]
  · rw [if_neg h]
    by_cases h2 : j < k
    · rw [if_pos h2, if_pos (by omega)]
    · rw [if_neg h2, if_neg (by omega)]
theorem chT_0 : (chp0 :: .inl (3, 4, .inr (.inr (.inr (.inr (fun _ => none))))) :: .inl (4, 3, .inr (.inr (.inr (.inr (fun _ => none))))) :: .inl (5, 16, .inr (.inr (.inr (.inr (fun _ => none))))) :: .inl (6, 6, .inr (.inr (.inr (.inr (fun _ => none))))) :: [] : List j_C) = chT 0 0 0 0 := by
  unfold chT
  rw [refs_0, refs_0, refs_0, refs_0]
  rfl
theorem chT_at {p q u v n : Nat} {c : j_C} (h : n = 5 + (p + (q + (u + v)))) : (chT p q u v ++ [c])[n]? = some c := by
  rw [h, List.getElem?_append_right (by rw [chT_len]; try omega), chT_len, Nat.sub_self]
  rfl
section N2
variable {l : Launch} {D : va_G} {ad : Nat → Nat} {tc : Nat → ClassId} {L : Nat} {xs : Nat → Int32} {G : List j_C} {a sl : Nat} {r : Option Value} {h' : j_H}
theorem ch_1 {k : Nat} : (chT k 0 0 0 ++ [clk0]).set 1 (.inl (3, 4, .inr (.inr (.inr (.inr (va_up (refs k 7) k (some (1 + (5 + k) + 1)))))))) = chT (k + 1) 0 0 0 := by
  rw [show 1 + (5 + k) + 1 = k + 7 by omega, refs_up]
  unfold chT
  simp [List.set_cons_succ, List.set_cons_zero, List.replicate_succ', List.append_assoc]
set_option maxRecDepth 20000 in
theorem lp_ch1 (hG : G.length = 1) : ∀ m k sl : Nat, k + m = 4 → Rn l D ad tc L xs mX1_init 2 41 69 [(1, .int (nI 4)), (0, .ref 2)] [] (G ++ chT 4 0 0 0, sl + m * 5) r h' → Rn l D ad tc L xs mX1_init 2 41 45 [(1, .int (nI k)), (0, .ref 2)] [] (G ++ chT k 0 0 0, sl) r h' := by
  intro m
  induction m with
  | zero =>
    intro k sl hk K
    have hk' : k = 4 := by omega
    subst hk'
    rw [Nat.zero_mul] at K
    refine rn_iload_n dX1_init_45 rfl ?_
    refine rn_iconst (v := 4) dX1_init_46 rfl ?_
    exact rn_icmp_ge (tgt := 69) dX1_init_47 rfl (fun _ => K) (fun q => absurd (by decide) q)
  | succ m ih =>
    intro k sl hk K
    have ih := ih (k + 1) (sl + 5) (by omega) (by rw [show sl + 5 + m * 5 = sl + (m + 1) * 5 by omega]; exact K)
    refine rn_iload_n dX1_init_45 rfl ?_
    refine rn_iconst (v := 4) dX1_init_46 rfl ?_
    refine rn_icmp_ge (tgt := 69) dX1_init_47 rfl (fun q => absurd q (Int32.not_le.mpr (by rw [show (4 : Int32) = nI 4 by decide]; exact nI_lt (by omega) (by omega)))) (fun _ => ?_)
    refine rn_aload_n dX1_init_50 rfl ?_
    refine rnT_get (i := 0) hG dX1_init_51 fo_X1_11 rfl rfl ?_
    refine rn_iload_n dX1_init_54 rfl ?_
    refine rnT_new (t := 5 + k) hG (by rw [chT_len]; try omega) dX1_init_55 no_X1_9 ?_
    refine rn_h (h2 := ((G ++ chT k 0 0 0) ++ [.inr (2, [.int 0, .int 0, .int 0, .int 0, .int 0])], sl + 5)) (by rw [List.append_assoc]; rfl) ?_
    refine rn_dup dX1_init_58 rfl ?_
    refine rn_callIN dX1_init_59 cin_X1_39 (c_X2_init (a := 1 + (5 + k)) (by rw [List.length_append, hG, chT_len]; try omega)) rfl (by decide) (by decide) rfl (Nat.le_of_ble_eq_true rfl) ?_
    refine rn_h (h2 := (G ++ (chT k 0 0 0 ++ [clk0]), sl + 5)) (by rw [List.append_assoc]; rfl) ?_
    refine rnT_aastore (i := 1) (v := 5 + k) (f := refs k 7) hG dX1_init_62 rfl rfl rfl (chT_at (by omega)) (vp_in_nI (by omega) (by decide)) ?_
    rw [nI_clamp (by omega)]
    refine rn_h (h2 := (G ++ chT (k + 1) 0 0 0, sl + 5)) (by rw [ch_1]) ?_
    refine rn_iinc dX1_init_63 rfl (nI_1 k) (by decide) rfl ?_
    refine rn_goto (tgt := 45) dX1_init_66 rfl ?_
    exact ih
theorem ch_2 {k : Nat} : (chT 4 k 0 0 ++ [cor0]).set 2 (.inl (4, 3, .inr (.inr (.inr (.inr (va_up (refs k 11) k (some (1 + (5 + (4 + k)) + 1)))))))) = chT 4 (k + 1) 0 0 := by
  rw [show 1 + (5 + (4 + k)) + 1 = k + 11 by omega, refs_up]
  unfold chT
  simp [List.set_cons_succ, List.set_cons_zero, List.replicate_succ', List.append_assoc]
set_option maxRecDepth 20000 in
theorem lp_ch2 (hG : G.length = 1) : ∀ m k sl : Nat, k + m = 3 → Rn l D ad tc L xs mX1_init 2 41 95 [(1, .int (nI 3)), (0, .ref 2)] [] (G ++ chT 4 3 0 0, sl + m * 2) r h' → Rn l D ad tc L xs mX1_init 2 41 71 [(1, .int (nI k)), (0, .ref 2)] [] (G ++ chT 4 k 0 0, sl) r h' := by
  intro m
  induction m with
  | zero =>
    intro k sl hk K
    have hk' : k = 3 := by omega
    subst hk'
    rw [Nat.zero_mul] at K
    refine rn_iload_n dX1_init_71 rfl ?_
    refine rn_iconst (v := 3) dX1_init_72 rfl ?_
    exact rn_icmp_ge (tgt := 95) dX1_init_73 rfl (fun _ => K) (fun q => absurd (by decide) q)
  | succ m ih =>
    intro k sl hk K
    have ih := ih (k + 1) (sl + 2) (by omega) (by rw [show sl + 2 + m * 2 = sl + (m + 1) * 2 by omega]; exact K)
    refine rn_iload_n dX1_init_71 rfl ?_
    refine rn_iconst (v := 3) dX1_init_72 rfl ?_
    refine rn_icmp_ge (tgt := 95) dX1_init_73 rfl (fun q => absurd q (Int32.not_le.mpr (by rw [show (3 : Int32) = nI 3 by decide]; exact nI_lt (by omega) (by omega)))) (fun _ => ?_)
    refine rn_aload_n dX1_init_76 rfl ?_
    refine rnT_get (i := 0) hG dX1_init_77 fo_X1_19 rfl rfl ?_
    refine rn_iload_n dX1_init_80 rfl ?_
    refine rnT_new (t := 5 + (4 + k)) hG (by rw [chT_len]; try omega) dX1_init_81 no_X1_17 ?_
    refine rn_h (h2 := ((G ++ chT 4 k 0 0) ++ [.inr (3, [.double 0, .double 0])], sl + 2)) (by rw [List.append_assoc]; rfl) ?_
    refine rn_dup dX1_init_84 rfl ?_
    refine rn_callIN dX1_init_85 cin_X1_40 (c_X3_init (a := 1 + (5 + (4 + k))) (by rw [List.length_append, hG, chT_len]; try omega)) rfl (by decide) (by decide) rfl (Nat.le_of_ble_eq_true rfl) ?_
    refine rn_h (h2 := (G ++ (chT 4 k 0 0 ++ [cor0]), sl + 2)) (by rw [List.append_assoc]; rfl) ?_
    refine rnT_aastore (i := 2) (v := 5 + (4 + k)) (f := refs k 11) hG dX1_init_88 rfl rfl rfl (chT_at (by omega)) (vp_in_nI (by omega) (by decide)) ?_
    rw [nI_clamp (by omega)]
    refine rn_h (h2 := (G ++ chT 4 (k + 1) 0 0, sl + 2)) (by rw [ch_2]) ?_
    refine rn_iinc dX1_init_89 rfl (nI_1 k) (by decide) rfl ?_
    refine rn_goto (tgt := 71) dX1_init_92 rfl ?_
    exact ih
theorem ch_3 {k : Nat} : (chT 4 3 k 0 ++ [nod0]).set 3 (.inl (5, 16, .inr (.inr (.inr (.inr (va_up (refs k 14) k (some (1 + (5 + (4 + (3 + k))) + 1)))))))) = chT 4 3 (k + 1) 0 := by
  rw [show 1 + (5 + (4 + (3 + k))) + 1 = k + 14 by omega, refs_up]
  unfold chT
  simp [List.set_cons_succ, List.set_cons_zero, List.replicate_succ', List.append_assoc]
theorem c_at1 {k : Nat} {x : j_C} {sl : Nat} (hG : G.length = 1) : ((((G ++ chT 4 3 k 0) ++ [x], sl) : j_H).1)[1 + 1]? = some (.inl (3, 4, .inr (.inr (.inr (.inr (refs 4 7)))))) := by
  show ((G ++ chT 4 3 k 0) ++ [x])[1 + 1]? = _
  rw [List.append_assoc]
  exact gt_at hG rfl
theorem c_at0 {k : Nat} {x : j_C} {sl : Nat} (hG : G.length = 1) : ((((G ++ chT 4 3 k 0) ++ [x], sl) : j_H).1)[1 + 0]? = some chp0 := by
  show ((G ++ chT 4 3 k 0) ++ [x])[1 + 0]? = _
  rw [List.append_assoc]
  exact gt_at hG rfl
set_option maxRecDepth 20000 in
theorem lp_ch3 (hG : G.length = 1) : ∀ m k sl : Nat, k + m = 16 → Rn l D ad tc L xs mX1_init 2 41 128 [(1, .int (nI 16)), (0, .ref 2)] [] (G ++ chT 4 3 16 0, sl + m * 8) r h' → Rn l D ad tc L xs mX1_init 2 41 97 [(1, .int (nI k)), (0, .ref 2)] [] (G ++ chT 4 3 k 0, sl) r h' := by
  intro m
  induction m with
  | zero =>
    intro k sl hk K
    have hk' : k = 16 := by omega
    subst hk'
    rw [Nat.zero_mul] at K
    refine rn_iload_n dX1_init_97 rfl ?_
    refine rn_bipush (v := 16) dX1_init_98 rfl ?_
    exact rn_icmp_ge (tgt := 128) dX1_init_100 rfl (fun _ => K) (fun q => absurd (by decide) q)
  | succ m ih =>
    intro k sl hk K
    have ih := ih (k + 1) (sl + 8) (by omega) (by rw [show sl + 8 + m * 8 = sl + (m + 1) * 8 by omega]; exact K)
    refine rn_iload_n dX1_init_97 rfl ?_
    refine rn_bipush (v := 16) dX1_init_98 rfl ?_
    refine rn_icmp_ge (tgt := 128) dX1_init_100 rfl (fun q => absurd q (Int32.not_le.mpr (by rw [show (16 : Int32) = nI 16 by decide]; exact nI_lt (by omega) (by omega)))) (fun _ => ?_)
    refine rn_aload_n dX1_init_103 rfl ?_
    refine rnT_get (i := 0) hG dX1_init_104 fo_X1_25 rfl rfl ?_
    refine rn_iload_n dX1_init_107 rfl ?_
    refine rnT_new (t := 5 + (4 + (3 + k))) hG (by rw [chT_len]; try omega) dX1_init_108 no_X1_23 ?_
    refine rn_h (h2 := ((G ++ chT 4 3 k 0) ++ [.inr (5, [.int 0, .int 0, .int 0, .int 0, .null, .int 0, .float 0, .int 0])], sl + 8)) (by rw [List.append_assoc]; rfl) ?_
    refine rn_dup dX1_init_111 rfl ?_
    refine rn_aload_n dX1_init_112 rfl ?_
    refine rn_getfield (a := 1 + 0) dX1_init_113 fo_X1_11 (c_at0 hG) rfl ?_
    refine rn_iconst (v := 0) dX1_init_116 rfl ?_
    refine rn_aaload (a := 1 + 1) (b := 7) dX1_init_117 (c_at1 hG) rfl (by unfold vp_in; decide) (by decide) ?_
    refine rn_callI dX1_init_118 ci_X1_41 (c_X5_init (a := 1 + (5 + (4 + (3 + k)))) (by rw [List.length_append, hG, chT_len]; try omega)) rfl (by decide) (by decide) rfl (Nat.le_of_ble_eq_true rfl) ?_
    refine rn_h (h2 := (G ++ (chT 4 3 k 0 ++ [nod0]), sl + 8)) (by rw [List.append_assoc]; rfl) ?_
    refine rnT_aastore (i := 3) (v := 5 + (4 + (3 + k))) (f := refs k 14) hG dX1_init_121 rfl rfl rfl (chT_at (by omega)) (vp_in_nI (by omega) (by decide)) ?_
    rw [nI_clamp (by omega)]
    refine rn_h (h2 := (G ++ chT 4 3 (k + 1) 0, sl + 8)) (by rw [ch_3]) ?_
    refine rn_iinc dX1_init_122 rfl (nI_1 k) (by decide) rfl ?_
    refine rn_goto (tgt := 97) dX1_init_125 rfl ?_
    exact ih
theorem ch_4 {k : Nat} : (chT 4 3 16 k ++ [rul0]).set 4 (.inl (6, 6, .inr (.inr (.inr (.inr (va_up (refs k 30) k (some (1 + (5 + (4 + (3 + (16 + k)))) + 1)))))))) = chT 4 3 16 (k + 1) := by
  rw [show 1 + (5 + (4 + (3 + (16 + k)))) + 1 = k + 30 by omega, refs_up]
  unfold chT
  simp [List.set_cons_succ, List.set_cons_zero, List.replicate_succ', List.append_assoc]
set_option maxRecDepth 20000 in
theorem lp_ch4 (hG : G.length = 1) : ∀ m k sl : Nat, k + m = 6 → Rn l D ad tc L xs mX1_init 2 41 155 [(1, .int (nI 6)), (0, .ref 2)] [] (G ++ chT 4 3 16 6, sl + m * 3) r h' → Rn l D ad tc L xs mX1_init 2 41 130 [(1, .int (nI k)), (0, .ref 2)] [] (G ++ chT 4 3 16 k, sl) r h' := by
  intro m
  induction m with
  | zero =>
    intro k sl hk K
    have hk' : k = 6 := by omega
    subst hk'
    rw [Nat.zero_mul] at K
    refine rn_iload_n dX1_init_130 rfl ?_
    refine rn_bipush (v := 6) dX1_init_131 rfl ?_
    exact rn_icmp_ge (tgt := 155) dX1_init_133 rfl (fun _ => K) (fun q => absurd (by decide) q)
  | succ m ih =>
    intro k sl hk K
    have ih := ih (k + 1) (sl + 3) (by omega) (by rw [show sl + 3 + m * 3 = sl + (m + 1) * 3 by omega]; exact K)
    refine rn_iload_n dX1_init_130 rfl ?_
    refine rn_bipush (v := 6) dX1_init_131 rfl ?_
    refine rn_icmp_ge (tgt := 155) dX1_init_133 rfl (fun q => absurd q (Int32.not_le.mpr (by rw [show (6 : Int32) = nI 6 by decide]; exact nI_lt (by omega) (by omega)))) (fun _ => ?_)
    refine rn_aload_n dX1_init_136 rfl ?_
    refine rnT_get (i := 0) hG dX1_init_137 fo_X1_31 rfl rfl ?_
    refine rn_iload_n dX1_init_140 rfl ?_
    refine rnT_new (t := 5 + (4 + (3 + (16 + k)))) hG (by rw [chT_len]; try omega) dX1_init_141 no_X1_29 ?_
    refine rn_h (h2 := ((G ++ chT 4 3 16 k) ++ [.inr (7, [.int 0, .int 0, .int 0])], sl + 3)) (by rw [List.append_assoc]; rfl) ?_
    refine rn_dup dX1_init_144 rfl ?_
    refine rn_callIN dX1_init_145 cin_X1_44 (c_X7_init (a := 1 + (5 + (4 + (3 + (16 + k))))) (by rw [List.length_append, hG, chT_len]; try omega)) rfl (by decide) (by decide) rfl (Nat.le_of_ble_eq_true rfl) ?_
    refine rn_h (h2 := (G ++ (chT 4 3 16 k ++ [rul0]), sl + 3)) (by rw [List.append_assoc]; rfl) ?_
    refine rnT_aastore (i := 4) (v := 5 + (4 + (3 + (16 + k)))) (f := refs k 30) hG dX1_init_148 rfl rfl rfl (chT_at (by omega)) (vp_in_nI (by omega) (by decide)) ?_
    rw [nI_clamp (by omega)]
    refine rn_h (h2 := (G ++ chT 4 3 16 (k + 1), sl + 3)) (by rw [ch_4]) ?_
    refine rn_iinc dX1_init_149 rfl (nI_1 k) (by decide) rfl ?_
    refine rn_goto (tgt := 130) dX1_init_152 rfl ?_
    exact ih
set_option maxRecDepth 20000 in
theorem c_X1_init (hG : G.length = 1) : Cn l D ad tc L xs mX1_init 2 41 [.ref 2] (G ++ [.inr (1, [.null, .null, .null, .null, .int 0, .int 0, .int 0, .int 0])], sl) none (G ++ chT 4 3 16 6, sl + 4 + 3 + 16 + 6 + 4 * 5 + 3 * 2 + 16 * 8 + 6 * 3) := by
  refine cn_of (lv0 := [(0, .ref 2)]) (by decide +kernel) rfl (fun _ => by simp [lg_sl, j_v, Value.category]) (fun _ => rfl) ?_
  refine rn_aload_n dX1_init_0 rfl ?_
  refine rn_objInit dX1_init_1 wd_82 wd_0 wd_1 (by decide) (by decide) (by decide) ?_
  refine rn_aload_n dX1_init_4 rfl ?_
  refine rn_iconst (v := 4) dX1_init_5 rfl ?_
  refine rnT_anew (t := 3) (N := 4) (u := 1) hG rfl dX1_init_6 rfl wd_83 (by decide +kernel) (by decide) (by decide) (by decide) ?_
  refine rnT_put (i := 0) hG dX1_init_9 fp_X1_11 rfl (by decide) (fun _ => ⟨rfl, rfl⟩) (Or.inl rfl) ?_
  refine rn_aload_n dX1_init_12 rfl ?_
  refine rn_iconst (v := 3) dX1_init_13 rfl ?_
  refine rnT_anew (t := 4) (N := 3) (u := 2) hG rfl dX1_init_14 rfl wd_85 (by decide +kernel) (by decide) (by decide) (by decide) ?_
  refine rnT_put (i := 0) hG dX1_init_17 fp_X1_19 rfl (by decide) (fun _ => ⟨rfl, rfl⟩) (Or.inl rfl) ?_
  refine rn_aload_n dX1_init_20 rfl ?_
  refine rn_bipush (v := 16) dX1_init_21 rfl ?_
  refine rnT_anew (t := 5) (N := 16) (u := 3) hG rfl dX1_init_23 rfl wd_87 (by decide +kernel) (by decide) (by decide) (by decide) ?_
  refine rnT_put (i := 0) hG dX1_init_26 fp_X1_25 rfl (by decide) (fun _ => ⟨rfl, rfl⟩) (Or.inl rfl) ?_
  refine rn_aload_n dX1_init_29 rfl ?_
  refine rn_bipush (v := 6) dX1_init_30 rfl ?_
  refine rnT_anew (t := 6) (N := 6) (u := 4) hG rfl dX1_init_32 rfl wd_89 (by decide +kernel) (by decide) (by decide) (by decide) ?_
  refine rnT_put (i := 0) hG dX1_init_35 fp_X1_31 rfl (by decide) (fun _ => ⟨rfl, rfl⟩) (Or.inl rfl) ?_
  refine rn_aload_n dX1_init_38 rfl ?_
  refine rn_iconst (v := 1) dX1_init_39 rfl ?_
  refine rnT_put (i := 0) hG dX1_init_40 fp_X1_35 rfl (by decide) (fun _ => ⟨rfl, rfl⟩) (Or.inl rfl) ?_
  refine rn_iconst (v := 0) dX1_init_43 rfl ?_
  refine rn_istore_n dX1_init_44 (by decide) rfl ?_
  refine rn_h (h2 := (G ++ chT 0 0 0 0, sl + 4 + 3 + 16 + 6)) (by rw [← chT_0]; rfl) ?_
  refine rn_sub (lv' := [(1, .int (nI 0)), (0, .ref 2)]) (fun _ q => q) (lp_ch1 hG 4 0 _ rfl ?_)
  refine rn_iconst (v := 0) dX1_init_69 rfl ?_
  refine rn_istore_n dX1_init_70 (by decide) rfl ?_
  refine rn_sub (lv' := [(1, .int (nI 0)), (0, .ref 2)]) (fun _ q => q) (lp_ch2 hG 3 0 _ rfl ?_)
  refine rn_iconst (v := 0) dX1_init_95 rfl ?_
  refine rn_istore_n dX1_init_96 (by decide) rfl ?_
  refine rn_sub (lv' := [(1, .int (nI 0)), (0, .ref 2)]) (fun _ q => q) (lp_ch3 hG 16 0 _ rfl ?_)
  refine rn_iconst (v := 0) dX1_init_128 rfl ?_
  refine rn_istore_n dX1_init_129 (by decide) rfl ?_
  refine rn_sub (lv' := [(1, .int (nI 0)), (0, .ref 2)]) (fun _ q => q) (lp_ch4 hG 6 0 _ rfl ?_)
  exact rn_ret dX1_init_155 trivial rfl
end N2
