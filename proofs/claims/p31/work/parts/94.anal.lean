/-! Analysis's constructor -/
def ai16 : j_C := .inl (0, 16, .inl (fun _ => 0))
def ai256 : j_C := .inl (0, 256, .inl (fun _ => 0))
def af16 : j_C := .inl (2, 16, .inr (.inr (.inl (fun _ => 0))))
def ad16 : j_C := .inl (1, 16, .inr (.inr (.inr (.inl (fun _ => 0)))))
def ad256 : j_C := .inl (1, 256, .inr (.inr (.inr (.inl (fun _ => 0)))))
def ad512 : j_C := .inl (1, 512, .inr (.inr (.inr (.inl (fun _ => 0)))))
def tmo (k w : Nat) (b : Int32) : j_C := .inr (8, [.ref 2, .ref 39, .ref w, .int b, .ref (k + 1), .ref (k + 2), .ref (k + 3), .ref (k + 4), .int 0])
def tra (f : Nat → Option Nat) : j_C := .inl (7, 3, .inr (.inr (.inr (.inr f))))
theorem tref_3 {o : Nat} : va_up (va_up (va_up (fun _ => none) 0 (some (0 + o))) 1 (some (10 + o))) 2 (some (20 + o)) = tref o := by
  funext j
  unfold va_up tref
  by_cases h : j < 3
  · rcases (by omega : j = 0 ∨ j = 1 ∨ j = 2) with rfl | rfl | rfl <;> rfl
  · rw [if_neg (by omega), if_neg (by omega), if_neg (by omega), if_neg h]
section N3
variable {l : Launch} {D : va_G} {ad : Nat → Nat} {tc : Nat → ClassId} {L : Nat} {xs : Nat → Int32} {G : List j_C} {a sl : Nat} {r : Option Value} {h' : j_H}
def anT : List j_C := [.inr (0, [.ref 2, .ref 39, .ref 44, .ref 37, .ref 38, .ref 47, .ref 50]), tra (tref 55), tra (tref 60), .inr (6, [.ref 2, .ref 40, .ref 41, .ref 42, .ref 43, .int 0]), ai16, ai16, ai256, ai256, .inr (4, [.ref 2, .ref 45, .ref 46, .int 0]), af16, ad16, .inr (4, [.ref 2, .ref 48, .ref 49, .int 0]), af16, ad16, tmo 50 47 1, ad512, ad256, ad16, ad16, tmo 55 44 1, ad512, ad256, ad16, ad16, tmo 60 44 0, ad512, ad256, ad16, ad16, tmo 65 44 1, ad512, ad256, ad16, ad16, tmo 70 44 0, ad512, ad256, ad16, ad16, tmo 75 44 1, ad512, ad256, ad16, ad16, tmo 80 44 0, ad512, ad256, ad16, ad16]
theorem anT_e : [.inr (0, [.ref 2, .ref 39, .ref 44, .ref 37, .ref 38, .ref 47, .ref 50]), tra (va_up (va_up (va_up (fun _ => none) 0 (some 55)) 1 (some 65)) 2 (some 75)), tra (va_up (va_up (va_up (fun _ => none) 0 (some 60)) 1 (some 70)) 2 (some 80)), .inr (6, [.ref 2, .ref 40, .ref 41, .ref 42, .ref 43, .int 0]), ai16, ai16, ai256, ai256, .inr (4, [.ref 2, .ref 45, .ref 46, .int 0]), af16, ad16, .inr (4, [.ref 2, .ref 48, .ref 49, .int 0]), af16, ad16, tmo 50 47 1, ad512, ad256, ad16, ad16, tmo 55 44 1, ad512, ad256, ad16, ad16, tmo 60 44 0, ad512, ad256, ad16, ad16, tmo 65 44 1, ad512, ad256, ad16, ad16, tmo 70 44 0, ad512, ad256, ad16, ad16, tmo 75 44 1, ad512, ad256, ad16, ad16, tmo 80 44 0, ad512, ad256, ad16, ad16] = anT := by
  have h1 := tref_3 (o := 55)
  have h2 := tref_3 (o := 60)
  unfold anT
  rw [← h1, ← h2]
set_option maxRecDepth 20000 in
theorem c_X0_init (hG : G.length = 35) : Cn l D ad tc L xs mX0_init 2 44 [.ref 36, .ref 2] (G ++ [.inr (0, [.null, .null, .null, .null, .null, .null, .null])], sl) none (G ++ anT, sl + 3 + 3 + 6 + 16 + 16 + 256 + 256 + 4 + 16 + 16 + 4 + 16 + 16 + 9 + 512 + 256 + 16 + 16 + 9 + 512 + 256 + 16 + 16 + 9 + 512 + 256 + 16 + 16 + 9 + 512 + 256 + 16 + 16 + 9 + 512 + 256 + 16 + 16 + 9 + 512 + 256 + 16 + 16 + 9 + 512 + 256 + 16 + 16) := by
  refine cn_of (lv0 := [(0, .ref 36), (1, .ref 2)]) (by decide +kernel) rfl (fun _ => by simp [lg_sl, j_v, Value.category]) (fun _ => rfl) ?_
  refine rn_aload_n dX0_init_0 rfl ?_
  refine rn_objInit dX0_init_1 wd_2 wd_0 wd_1 (by decide) (by decide) (by decide) ?_
  refine rn_aload_n dX0_init_4 rfl ?_
  refine rn_iconst (v := 3) dX0_init_5 rfl ?_
  refine rnT_anew (t := 7) (N := 3) (u := 1) hG rfl dX0_init_6 rfl wd_3 (by decide +kernel) (by decide) (by decide) (by decide) ?_
  refine rnT_put (i := 0) hG dX0_init_9 fp_X0_11 rfl (by decide) (fun _ => ⟨rfl, rfl⟩) (Or.inl rfl) ?_
  refine rn_h (h2 := (G ++ [.inr (0, [.null, .null, .null, .ref 37, .null, .null, .null]), tra (fun _ => none)], sl + 3)) rfl ?_
  refine rn_aload_n dX0_init_12 rfl ?_
  refine rn_iconst (v := 3) dX0_init_13 rfl ?_
  refine rnT_anew (t := 7) (N := 3) (u := 2) hG rfl dX0_init_14 rfl wd_3 (by decide +kernel) (by decide) (by decide) (by decide) ?_
  refine rnT_put (i := 0) hG dX0_init_17 fp_X0_17 rfl (by decide) (fun _ => ⟨rfl, rfl⟩) (Or.inl rfl) ?_
  refine rn_h (h2 := (G ++ [.inr (0, [.null, .null, .null, .ref 37, .ref 38, .null, .null]), tra (fun _ => none), tra (fun _ => none)], sl + 3 + 3)) rfl ?_
  refine rn_aload_n dX0_init_20 rfl ?_
  refine rn_aload_n dX0_init_21 rfl ?_
  refine rnT_put (i := 0) hG dX0_init_22 fp_X0_20 rfl (by decide) (fun _ => ⟨rfl, rfl⟩) (Or.inl rfl) ?_
  refine rn_h (h2 := (G ++ [.inr (0, [.ref 2, .null, .null, .ref 37, .ref 38, .null, .null]), tra (fun _ => none), tra (fun _ => none)], sl + 3 + 3)) rfl ?_
  refine rn_aload_n dX0_init_25 rfl ?_
  refine rnT_new (t := 3) hG rfl dX0_init_26 no_X0_24 ?_
  refine rn_dup dX0_init_29 rfl ?_
  refine rn_aload_n dX0_init_30 rfl ?_
  refine rn_h (h2 := ((G ++ [.inr (0, [.ref 2, .null, .null, .ref 37, .ref 38, .null, .null]), tra (fun _ => none), tra (fun _ => none)]) ++ [.inr (6, [.null, .null, .null, .null, .null, .int 0])], sl + 3 + 3 + 6)) (by rw [List.append_assoc]; rfl) ?_
  refine rn_callI dX0_init_31 ci_X0_26 (c_X6_init (a := 38) (by rw [List.length_append, hG]; rfl)) rfl (by decide) (by decide) rfl (Nat.le_of_ble_eq_true rfl) ?_
  refine rn_h (h2 := (G ++ [.inr (0, [.ref 2, .null, .null, .ref 37, .ref 38, .null, .null]), tra (fun _ => none), tra (fun _ => none), .inr (6, [.ref 2, .ref 40, .ref 41, .ref 42, .ref 43, .int 0]), ai16, ai16, ai256, ai256], sl + 3 + 3 + 6 + 16 + 16 + 256 + 256)) (by rw [List.append_assoc]; rfl) ?_
  refine rnT_put (i := 0) hG dX0_init_34 fp_X0_29 rfl (by decide) (fun _ => ⟨rfl, rfl⟩) (Or.inl rfl) ?_
  refine rn_h (h2 := (G ++ [.inr (0, [.ref 2, .ref 39, .null, .ref 37, .ref 38, .null, .null]), tra (fun _ => none), tra (fun _ => none), .inr (6, [.ref 2, .ref 40, .ref 41, .ref 42, .ref 43, .int 0]), ai16, ai16, ai256, ai256], sl + 3 + 3 + 6 + 16 + 16 + 256 + 256)) rfl ?_
  refine rn_aload_n dX0_init_37 rfl ?_
  refine rnT_new (t := 8) hG rfl dX0_init_38 no_X0_33 ?_
  refine rn_dup dX0_init_41 rfl ?_
  refine rn_aload_n dX0_init_42 rfl ?_
  refine rn_h (h2 := ((G ++ [.inr (0, [.ref 2, .ref 39, .null, .ref 37, .ref 38, .null, .null]), tra (fun _ => none), tra (fun _ => none), .inr (6, [.ref 2, .ref 40, .ref 41, .ref 42, .ref 43, .int 0]), ai16, ai16, ai256, ai256]) ++ [.inr (4, [.null, .null, .null, .int 0])], sl + 3 + 3 + 6 + 16 + 16 + 256 + 256 + 4)) (by rw [List.append_assoc]; rfl) ?_
  refine rn_callI dX0_init_43 ci_X0_35 (c_X4_init (a := 43) (by rw [List.length_append, hG]; rfl)) rfl (by decide) (by decide) rfl (Nat.le_of_ble_eq_true rfl) ?_
  refine rn_h (h2 := (G ++ [.inr (0, [.ref 2, .ref 39, .null, .ref 37, .ref 38, .null, .null]), tra (fun _ => none), tra (fun _ => none), .inr (6, [.ref 2, .ref 40, .ref 41, .ref 42, .ref 43, .int 0]), ai16, ai16, ai256, ai256, .inr (4, [.ref 2, .ref 45, .ref 46, .int 0]), af16, ad16], sl + 3 + 3 + 6 + 16 + 16 + 256 + 256 + 4 + 16 + 16)) (by rw [List.append_assoc]; rfl) ?_
  refine rnT_put (i := 0) hG dX0_init_46 fp_X0_36 rfl (by decide) (fun _ => ⟨rfl, rfl⟩) (Or.inl rfl) ?_
  refine rn_h (h2 := (G ++ [.inr (0, [.ref 2, .ref 39, .ref 44, .ref 37, .ref 38, .null, .null]), tra (fun _ => none), tra (fun _ => none), .inr (6, [.ref 2, .ref 40, .ref 41, .ref 42, .ref 43, .int 0]), ai16, ai16, ai256, ai256, .inr (4, [.ref 2, .ref 45, .ref 46, .int 0]), af16, ad16], sl + 3 + 3 + 6 + 16 + 16 + 256 + 256 + 4 + 16 + 16)) rfl ?_
  refine rn_aload_n dX0_init_49 rfl ?_
  refine rnT_new (t := 11) hG rfl dX0_init_50 no_X0_33 ?_
  refine rn_dup dX0_init_53 rfl ?_
  refine rn_aload_n dX0_init_54 rfl ?_
  refine rn_h (h2 := ((G ++ [.inr (0, [.ref 2, .ref 39, .ref 44, .ref 37, .ref 38, .null, .null]), tra (fun _ => none), tra (fun _ => none), .inr (6, [.ref 2, .ref 40, .ref 41, .ref 42, .ref 43, .int 0]), ai16, ai16, ai256, ai256, .inr (4, [.ref 2, .ref 45, .ref 46, .int 0]), af16, ad16]) ++ [.inr (4, [.null, .null, .null, .int 0])], sl + 3 + 3 + 6 + 16 + 16 + 256 + 256 + 4 + 16 + 16 + 4)) (by rw [List.append_assoc]; rfl) ?_
  refine rn_callI dX0_init_55 ci_X0_35 (c_X4_init (a := 46) (by rw [List.length_append, hG]; rfl)) rfl (by decide) (by decide) rfl (Nat.le_of_ble_eq_true rfl) ?_
  refine rn_h (h2 := (G ++ [.inr (0, [.ref 2, .ref 39, .ref 44, .ref 37, .ref 38, .null, .null]), tra (fun _ => none), tra (fun _ => none), .inr (6, [.ref 2, .ref 40, .ref 41, .ref 42, .ref 43, .int 0]), ai16, ai16, ai256, ai256, .inr (4, [.ref 2, .ref 45, .ref 46, .int 0]), af16, ad16, .inr (4, [.ref 2, .ref 48, .ref 49, .int 0]), af16, ad16], sl + 3 + 3 + 6 + 16 + 16 + 256 + 256 + 4 + 16 + 16 + 4 + 16 + 16)) (by rw [List.append_assoc]; rfl) ?_
  refine rnT_put (i := 0) hG dX0_init_58 fp_X0_40 rfl (by decide) (fun _ => ⟨rfl, rfl⟩) (Or.inl rfl) ?_
  refine rn_h (h2 := (G ++ [.inr (0, [.ref 2, .ref 39, .ref 44, .ref 37, .ref 38, .ref 47, .null]), tra (fun _ => none), tra (fun _ => none), .inr (6, [.ref 2, .ref 40, .ref 41, .ref 42, .ref 43, .int 0]), ai16, ai16, ai256, ai256, .inr (4, [.ref 2, .ref 45, .ref 46, .int 0]), af16, ad16, .inr (4, [.ref 2, .ref 48, .ref 49, .int 0]), af16, ad16], sl + 3 + 3 + 6 + 16 + 16 + 256 + 256 + 4 + 16 + 16 + 4 + 16 + 16)) rfl ?_
  refine rn_aload_n dX0_init_61 rfl ?_
  refine rnT_new (t := 14) hG rfl dX0_init_62 no_X0_9 ?_
  refine rn_dup dX0_init_65 rfl ?_
  refine rn_aload_n dX0_init_66 rfl ?_
  refine rn_aload_n dX0_init_67 rfl ?_
  refine rnT_get (i := 0) hG dX0_init_68 fo_X0_29 rfl rfl ?_
  refine rn_aload_n dX0_init_71 rfl ?_
  refine rnT_get (i := 0) hG dX0_init_72 fo_X0_40 rfl rfl ?_
  refine rn_iconst (v := 1) dX0_init_75 rfl ?_
  refine rn_h (h2 := ((G ++ [.inr (0, [.ref 2, .ref 39, .ref 44, .ref 37, .ref 38, .ref 47, .null]), tra (fun _ => none), tra (fun _ => none), .inr (6, [.ref 2, .ref 40, .ref 41, .ref 42, .ref 43, .int 0]), ai16, ai16, ai256, ai256, .inr (4, [.ref 2, .ref 45, .ref 46, .int 0]), af16, ad16, .inr (4, [.ref 2, .ref 48, .ref 49, .int 0]), af16, ad16]) ++ [.inr (8, [.null, .null, .null, .int 0, .null, .null, .null, .null, .int 0])], sl + 3 + 3 + 6 + 16 + 16 + 256 + 256 + 4 + 16 + 16 + 4 + 16 + 16 + 9)) (by rw [List.append_assoc]; rfl) ?_
  refine rn_callI dX0_init_76 ci_X0_43 (c_X8_init (a := 49) ⟨rfl, rfl⟩ (by rw [List.length_append, hG]; rfl)) rfl (by decide) (by decide) rfl (Nat.le_of_ble_eq_true rfl) ?_
  refine rn_h (h2 := (G ++ [.inr (0, [.ref 2, .ref 39, .ref 44, .ref 37, .ref 38, .ref 47, .null]), tra (fun _ => none), tra (fun _ => none), .inr (6, [.ref 2, .ref 40, .ref 41, .ref 42, .ref 43, .int 0]), ai16, ai16, ai256, ai256, .inr (4, [.ref 2, .ref 45, .ref 46, .int 0]), af16, ad16, .inr (4, [.ref 2, .ref 48, .ref 49, .int 0]), af16, ad16, tmo 50 47 1, ad512, ad256, ad16, ad16], sl + 3 + 3 + 6 + 16 + 16 + 256 + 256 + 4 + 16 + 16 + 4 + 16 + 16 + 9 + 512 + 256 + 16 + 16)) (by rw [List.append_assoc]; rfl) ?_
  refine rnT_put (i := 0) hG dX0_init_79 fp_X0_46 rfl (by decide) (fun _ => ⟨rfl, rfl⟩) (Or.inl rfl) ?_
  refine rn_h (h2 := (G ++ [.inr (0, [.ref 2, .ref 39, .ref 44, .ref 37, .ref 38, .ref 47, .ref 50]), tra (fun _ => none), tra (fun _ => none), .inr (6, [.ref 2, .ref 40, .ref 41, .ref 42, .ref 43, .int 0]), ai16, ai16, ai256, ai256, .inr (4, [.ref 2, .ref 45, .ref 46, .int 0]), af16, ad16, .inr (4, [.ref 2, .ref 48, .ref 49, .int 0]), af16, ad16, tmo 50 47 1, ad512, ad256, ad16, ad16], sl + 3 + 3 + 6 + 16 + 16 + 256 + 256 + 4 + 16 + 16 + 4 + 16 + 16 + 9 + 512 + 256 + 16 + 16)) rfl ?_
  refine rn_iconst (v := 0) dX0_init_82 rfl ?_
  refine rn_istore_n dX0_init_83 (by decide) rfl ?_
  refine rn_iload_n dX0_init_84 rfl ?_
  refine rn_iconst (v := 3) dX0_init_85 rfl ?_
  refine rn_icmp_ge (tgt := 141) dX0_init_86 rfl (fun q => absurd q (by decide)) (fun _ => ?_)
  refine rn_aload_n dX0_init_89 rfl ?_
  refine rnT_get (i := 0) hG dX0_init_90 fo_X0_11 rfl rfl ?_
  refine rn_iload_n dX0_init_93 rfl ?_
  refine rnT_new (t := 19) hG rfl dX0_init_94 no_X0_9 ?_
  refine rn_dup dX0_init_97 rfl ?_
  refine rn_aload_n dX0_init_98 rfl ?_
  refine rn_aload_n dX0_init_99 rfl ?_
  refine rnT_get (i := 0) hG dX0_init_100 fo_X0_29 rfl rfl ?_
  refine rn_aload_n dX0_init_103 rfl ?_
  refine rnT_get (i := 0) hG dX0_init_104 fo_X0_36 rfl rfl ?_
  refine rn_iconst (v := 1) dX0_init_107 rfl ?_
  refine rn_h (h2 := ((G ++ [.inr (0, [.ref 2, .ref 39, .ref 44, .ref 37, .ref 38, .ref 47, .ref 50]), tra (fun _ => none), tra (fun _ => none), .inr (6, [.ref 2, .ref 40, .ref 41, .ref 42, .ref 43, .int 0]), ai16, ai16, ai256, ai256, .inr (4, [.ref 2, .ref 45, .ref 46, .int 0]), af16, ad16, .inr (4, [.ref 2, .ref 48, .ref 49, .int 0]), af16, ad16, tmo 50 47 1, ad512, ad256, ad16, ad16]) ++ [.inr (8, [.null, .null, .null, .int 0, .null, .null, .null, .null, .int 0])], sl + 3 + 3 + 6 + 16 + 16 + 256 + 256 + 4 + 16 + 16 + 4 + 16 + 16 + 9 + 512 + 256 + 16 + 16 + 9)) (by rw [List.append_assoc]; rfl) ?_
  refine rn_callI dX0_init_108 ci_X0_43 (c_X8_init (a := 54) ⟨rfl, rfl⟩ (by rw [List.length_append, hG]; rfl)) rfl (by decide) (by decide) rfl (Nat.le_of_ble_eq_true rfl) ?_
  refine rn_h (h2 := (G ++ [.inr (0, [.ref 2, .ref 39, .ref 44, .ref 37, .ref 38, .ref 47, .ref 50]), tra (fun _ => none), tra (fun _ => none), .inr (6, [.ref 2, .ref 40, .ref 41, .ref 42, .ref 43, .int 0]), ai16, ai16, ai256, ai256, .inr (4, [.ref 2, .ref 45, .ref 46, .int 0]), af16, ad16, .inr (4, [.ref 2, .ref 48, .ref 49, .int 0]), af16, ad16, tmo 50 47 1, ad512, ad256, ad16, ad16, tmo 55 44 1, ad512, ad256, ad16, ad16], sl + 3 + 3 + 6 + 16 + 16 + 256 + 256 + 4 + 16 + 16 + 4 + 16 + 16 + 9 + 512 + 256 + 16 + 16 + 9 + 512 + 256 + 16 + 16)) (by rw [List.append_assoc]; rfl) ?_
  refine rnT_aastore (i := 1) (v := 19) (f := (fun _ => none)) hG dX0_init_111 rfl rfl rfl rfl (by unfold vp_in; decide) ?_
  refine rn_h (h2 := (G ++ [.inr (0, [.ref 2, .ref 39, .ref 44, .ref 37, .ref 38, .ref 47, .ref 50]), tra (va_up (fun _ => none) 0 (some 55)), tra (fun _ => none), .inr (6, [.ref 2, .ref 40, .ref 41, .ref 42, .ref 43, .int 0]), ai16, ai16, ai256, ai256, .inr (4, [.ref 2, .ref 45, .ref 46, .int 0]), af16, ad16, .inr (4, [.ref 2, .ref 48, .ref 49, .int 0]), af16, ad16, tmo 50 47 1, ad512, ad256, ad16, ad16, tmo 55 44 1, ad512, ad256, ad16, ad16], sl + 3 + 3 + 6 + 16 + 16 + 256 + 256 + 4 + 16 + 16 + 4 + 16 + 16 + 9 + 512 + 256 + 16 + 16 + 9 + 512 + 256 + 16 + 16)) rfl ?_
  refine rn_aload_n dX0_init_112 rfl ?_
  refine rnT_get (i := 0) hG dX0_init_113 fo_X0_17 rfl rfl ?_
  refine rn_iload_n dX0_init_116 rfl ?_
  refine rnT_new (t := 24) hG rfl dX0_init_117 no_X0_9 ?_
  refine rn_dup dX0_init_120 rfl ?_
  refine rn_aload_n dX0_init_121 rfl ?_
  refine rn_aload_n dX0_init_122 rfl ?_
  refine rnT_get (i := 0) hG dX0_init_123 fo_X0_29 rfl rfl ?_
  refine rn_aload_n dX0_init_126 rfl ?_
  refine rnT_get (i := 0) hG dX0_init_127 fo_X0_36 rfl rfl ?_
  refine rn_iconst (v := 0) dX0_init_130 rfl ?_
  refine rn_h (h2 := ((G ++ [.inr (0, [.ref 2, .ref 39, .ref 44, .ref 37, .ref 38, .ref 47, .ref 50]), tra (va_up (fun _ => none) 0 (some 55)), tra (fun _ => none), .inr (6, [.ref 2, .ref 40, .ref 41, .ref 42, .ref 43, .int 0]), ai16, ai16, ai256, ai256, .inr (4, [.ref 2, .ref 45, .ref 46, .int 0]), af16, ad16, .inr (4, [.ref 2, .ref 48, .ref 49, .int 0]), af16, ad16, tmo 50 47 1, ad512, ad256, ad16, ad16, tmo 55 44 1, ad512, ad256, ad16, ad16]) ++ [.inr (8, [.null, .null, .null, .int 0, .null, .null, .null, .null, .int 0])], sl + 3 + 3 + 6 + 16 + 16 + 256 + 256 + 4 + 16 + 16 + 4 + 16 + 16 + 9 + 512 + 256 + 16 + 16 + 9 + 512 + 256 + 16 + 16 + 9)) (by rw [List.append_assoc]; rfl) ?_
  refine rn_callI dX0_init_131 ci_X0_43 (c_X8_init (a := 59) ⟨rfl, rfl⟩ (by rw [List.length_append, hG]; rfl)) rfl (by decide) (by decide) rfl (Nat.le_of_ble_eq_true rfl) ?_
  refine rn_h (h2 := (G ++ [.inr (0, [.ref 2, .ref 39, .ref 44, .ref 37, .ref 38, .ref 47, .ref 50]), tra (va_up (fun _ => none) 0 (some 55)), tra (fun _ => none), .inr (6, [.ref 2, .ref 40, .ref 41, .ref 42, .ref 43, .int 0]), ai16, ai16, ai256, ai256, .inr (4, [.ref 2, .ref 45, .ref 46, .int 0]), af16, ad16, .inr (4, [.ref 2, .ref 48, .ref 49, .int 0]), af16, ad16, tmo 50 47 1, ad512, ad256, ad16, ad16, tmo 55 44 1, ad512, ad256, ad16, ad16, tmo 60 44 0, ad512, ad256, ad16, ad16], sl + 3 + 3 + 6 + 16 + 16 + 256 + 256 + 4 + 16 + 16 + 4 + 16 + 16 + 9 + 512 + 256 + 16 + 16 + 9 + 512 + 256 + 16 + 16 + 9 + 512 + 256 + 16 + 16)) (by rw [List.append_assoc]; rfl) ?_
  refine rnT_aastore (i := 2) (v := 24) (f := (fun _ => none)) hG dX0_init_134 rfl rfl rfl rfl (by unfold vp_in; decide) ?_
  refine rn_h (h2 := (G ++ [.inr (0, [.ref 2, .ref 39, .ref 44, .ref 37, .ref 38, .ref 47, .ref 50]), tra (va_up (fun _ => none) 0 (some 55)), tra (va_up (fun _ => none) 0 (some 60)), .inr (6, [.ref 2, .ref 40, .ref 41, .ref 42, .ref 43, .int 0]), ai16, ai16, ai256, ai256, .inr (4, [.ref 2, .ref 45, .ref 46, .int 0]), af16, ad16, .inr (4, [.ref 2, .ref 48, .ref 49, .int 0]), af16, ad16, tmo 50 47 1, ad512, ad256, ad16, ad16, tmo 55 44 1, ad512, ad256, ad16, ad16, tmo 60 44 0, ad512, ad256, ad16, ad16], sl + 3 + 3 + 6 + 16 + 16 + 256 + 256 + 4 + 16 + 16 + 4 + 16 + 16 + 9 + 512 + 256 + 16 + 16 + 9 + 512 + 256 + 16 + 16 + 9 + 512 + 256 + 16 + 16)) rfl ?_
  refine rn_iinc (v := 1) dX0_init_135 rfl (by decide) (by decide) rfl ?_
  refine rn_goto (tgt := 84) dX0_init_138 rfl ?_
  refine rn_iload_n dX0_init_84 rfl ?_
  refine rn_iconst (v := 3) dX0_init_85 rfl ?_
  refine rn_icmp_ge (tgt := 141) dX0_init_86 rfl (fun q => absurd q (by decide)) (fun _ => ?_)
  refine rn_aload_n dX0_init_89 rfl ?_
  refine rnT_get (i := 0) hG dX0_init_90 fo_X0_11 rfl rfl ?_
  refine rn_iload_n dX0_init_93 rfl ?_
  refine rnT_new (t := 29) hG rfl dX0_init_94 no_X0_9 ?_
  refine rn_dup dX0_init_97 rfl ?_
  refine rn_aload_n dX0_init_98 rfl ?_
  refine rn_aload_n dX0_init_99 rfl ?_
  refine rnT_get (i := 0) hG dX0_init_100 fo_X0_29 rfl rfl ?_
  refine rn_aload_n dX0_init_103 rfl ?_
  refine rnT_get (i := 0) hG dX0_init_104 fo_X0_36 rfl rfl ?_
  refine rn_iconst (v := 1) dX0_init_107 rfl ?_
  refine rn_h (h2 := ((G ++ [.inr (0, [.ref 2, .ref 39, .ref 44, .ref 37, .ref 38, .ref 47, .ref 50]), tra (va_up (fun _ => none) 0 (some 55)), tra (va_up (fun _ => none) 0 (some 60)), .inr (6, [.ref 2, .ref 40, .ref 41, .ref 42, .ref 43, .int 0]), ai16, ai16, ai256, ai256, .inr (4, [.ref 2, .ref 45, .ref 46, .int 0]), af16, ad16, .inr (4, [.ref 2, .ref 48, .ref 49, .int 0]), af16, ad16, tmo 50 47 1, ad512, ad256, ad16, ad16, tmo 55 44 1, ad512, ad256, ad16, ad16, tmo 60 44 0, ad512, ad256, ad16, ad16]) ++ [.inr (8, [.null, .null, .null, .int 0, .null, .null, .null, .null, .int 0])], sl + 3 + 3 + 6 + 16 + 16 + 256 + 256 + 4 + 16 + 16 + 4 + 16 + 16 + 9 + 512 + 256 + 16 + 16 + 9 + 512 + 256 + 16 + 16 + 9 + 512 + 256 + 16 + 16 + 9)) (by rw [List.append_assoc]; rfl) ?_
  refine rn_callI dX0_init_108 ci_X0_43 (c_X8_init (a := 64) ⟨rfl, rfl⟩ (by rw [List.length_append, hG]; rfl)) rfl (by decide) (by decide) rfl (Nat.le_of_ble_eq_true rfl) ?_
  refine rn_h (h2 := (G ++ [.inr (0, [.ref 2, .ref 39, .ref 44, .ref 37, .ref 38, .ref 47, .ref 50]), tra (va_up (fun _ => none) 0 (some 55)), tra (va_up (fun _ => none) 0 (some 60)), .inr (6, [.ref 2, .ref 40, .ref 41, .ref 42, .ref 43, .int 0]), ai16, ai16, ai256, ai256, .inr (4, [.ref 2, .ref 45, .ref 46, .int 0]), af16, ad16, .inr (4, [.ref 2, .ref 48, .ref 49, .int 0]), af16, ad16, tmo 50 47 1, ad512, ad256, ad16, ad16, tmo 55 44 1, ad512, ad256, ad16, ad16, tmo 60 44 0, ad512, ad256, ad16, ad16, tmo 65 44 1, ad512, ad256, ad16, ad16], sl + 3 + 3 + 6 + 16 + 16 + 256 + 256 + 4 + 16 + 16 + 4 + 16 + 16 + 9 + 512 + 256 + 16 + 16 + 9 + 512 + 256 + 16 + 16 + 9 + 512 + 256 + 16 + 16 + 9 + 512 + 256 + 16 + 16)) (by rw [List.append_assoc]; rfl) ?_
  refine rnT_aastore (i := 1) (v := 29) (f := (va_up (fun _ => none) 0 (some 55))) hG dX0_init_111 rfl rfl rfl rfl (by unfold vp_in; decide) ?_
  refine rn_h (h2 := (G ++ [.inr (0, [.ref 2, .ref 39, .ref 44, .ref 37, .ref 38, .ref 47, .ref 50]), tra (va_up (va_up (fun _ => none) 0 (some 55)) 1 (some 65)), tra (va_up (fun _ => none) 0 (some 60)), .inr (6, [.ref 2, .ref 40, .ref 41, .ref 42, .ref 43, .int 0]), ai16, ai16, ai256, ai256, .inr (4, [.ref 2, .ref 45, .ref 46, .int 0]), af16, ad16, .inr (4, [.ref 2, .ref 48, .ref 49, .int 0]), af16, ad16, tmo 50 47 1, ad512, ad256, ad16, ad16, tmo 55 44 1, ad512, ad256, ad16, ad16, tmo 60 44 0, ad512, ad256, ad16, ad16, tmo 65 44 1, ad512, ad256, ad16, ad16], sl + 3 + 3 + 6 + 16 + 16 + 256 + 256 + 4 + 16 + 16 + 4 + 16 + 16 + 9 + 512 + 256 + 16 + 16 + 9 + 512 + 256 + 16 + 16 + 9 + 512 + 256 + 16 + 16 + 9 + 512 + 256 + 16 + 16)) rfl ?_
  refine rn_aload_n dX0_init_112 rfl ?_
  refine rnT_get (i := 0) hG dX0_init_113 fo_X0_17 rfl rfl ?_
  refine rn_iload_n dX0_init_116 rfl ?_
  refine rnT_new (t := 34) hG rfl dX0_init_117 no_X0_9 ?_
  refine rn_dup dX0_init_120 rfl ?_
  refine rn_aload_n dX0_init_121 rfl ?_
  refine rn_aload_n dX0_init_122 rfl ?_
  refine rnT_get (i := 0) hG dX0_init_123 fo_X0_29 rfl rfl ?_
  refine rn_aload_n dX0_init_126 rfl ?_
  refine rnT_get (i := 0) hG dX0_init_127 fo_X0_36 rfl rfl ?_
  refine rn_iconst (v := 0) dX0_init_130 rfl ?_
  refine rn_h (h2 := ((G ++ [.inr (0, [.ref 2, .ref 39, .ref 44, .ref 37, .ref 38, .ref 47, .ref 50]), tra (va_up (va_up (fun _ => none) 0 (some 55)) 1 (some 65)), tra (va_up (fun _ => none) 0 (some 60)), .inr (6, [.ref 2, .ref 40, .ref 41, .ref 42, .ref 43, .int 0]), ai16, ai16, ai256, ai256, .inr (4, [.ref 2, .ref 45, .ref 46, .int 0]), af16, ad16, .inr (4, [.ref 2, .ref 48, .ref 49, .int 0]), af16, ad16, tmo 50 47 1, ad512, ad256, ad16, ad16, tmo 55 44 1, ad512, ad256, ad16, ad16, tmo 60 44 0, ad512, ad256, ad16, ad16, tmo 65 44 1, ad512, ad256, ad16, ad16]) ++ [.inr (8, [.null, .null, .null, .int 0, .null, .null, .null, .null, .int 0])], sl + 3 + 3 + 6 + 16 + 16 + 256 + 256 + 4 + 16 + 16 + 4 + 16 + 16 + 9 + 512 + 256 + 16 + 16 + 9 + 512 + 256 + 16 + 16 + 9 + 512 + 256 + 16 + 16 + 9 + 512 + 256 + 16 + 16 + 9)) (by rw [List.append_assoc]; rfl) ?_
  refine rn_callI dX0_init_131 ci_X0_43 (c_X8_init (a := 69) ⟨rfl, rfl⟩ (by rw [List.length_append, hG]; rfl)) rfl (by decide) (by decide) rfl (Nat.le_of_ble_eq_true rfl) ?_
  refine rn_h (h2 := (G ++ [.inr (0, [.ref 2, .ref 39, .ref 44, .ref 37, .ref 38, .ref 47, .ref 50]), tra (va_up (va_up (fun _ => none) 0 (some 55)) 1 (some 65)), tra (va_up (fun _ => none) 0 (some 60)), .inr (6, [.ref 2, .ref 40, .ref 41, .ref 42, .ref 43, .int 0]), ai16, ai16, ai256, ai256, .inr (4, [.ref 2, .ref 45, .ref 46, .int 0]), af16, ad16, .inr (4, [.ref 2, .ref 48, .ref 49, .int 0]), af16, ad16, tmo 50 47 1, ad512, ad256, ad16, ad16, tmo 55 44 1, ad512, ad256, ad16, ad16, tmo 60 44 0, ad512, ad256, ad16, ad16, tmo 65 44 1, ad512, ad256, ad16, ad16, tmo 70 44 0, ad512, ad256, ad16, ad16], sl + 3 + 3 + 6 + 16 + 16 + 256 + 256 + 4 + 16 + 16 + 4 + 16 + 16 + 9 + 512 + 256 + 16 + 16 + 9 + 512 + 256 + 16 + 16 + 9 + 512 + 256 + 16 + 16 + 9 + 512 + 256 + 16 + 16 + 9 + 512 + 256 + 16 + 16)) (by rw [List.append_assoc]; rfl) ?_
  refine rnT_aastore (i := 2) (v := 34) (f := (va_up (fun _ => none) 0 (some 60))) hG dX0_init_134 rfl rfl rfl rfl (by unfold vp_in; decide) ?_
  refine rn_h (h2 := (G ++ [.inr (0, [.ref 2, .ref 39, .ref 44, .ref 37, .ref 38, .ref 47, .ref 50]), tra (va_up (va_up (fun _ => none) 0 (some 55)) 1 (some 65)), tra (va_up (va_up (fun _ => none) 0 (some 60)) 1 (some 70)), .inr (6, [.ref 2, .ref 40, .ref 41, .ref 42, .ref 43, .int 0]), ai16, ai16, ai256, ai256, .inr (4, [.ref 2, .ref 45, .ref 46, .int 0]), af16, ad16, .inr (4, [.ref 2, .ref 48, .ref 49, .int 0]), af16, ad16, tmo 50 47 1, ad512, ad256, ad16, ad16, tmo 55 44 1, ad512, ad256, ad16, ad16, tmo 60 44 0, ad512, ad256, ad16, ad16, tmo 65 44 1, ad512, ad256, ad16, ad16, tmo 70 44 0, ad512, ad256, ad16, ad16], sl + 3 + 3 + 6 + 16 + 16 + 256 + 256 + 4 + 16 + 16 + 4 + 16 + 16 + 9 + 512 + 256 + 16 + 16 + 9 + 512 + 256 + 16 + 16 + 9 + 512 + 256 + 16 + 16 + 9 + 512 + 256 + 16 + 16 + 9 + 512 + 256 + 16 + 16)) rfl ?_
  refine rn_iinc (v := 2) dX0_init_135 rfl (by decide) (by decide) rfl ?_
  refine rn_goto (tgt := 84) dX0_init_138 rfl ?_
  refine rn_iload_n dX0_init_84 rfl ?_
  refine rn_iconst (v := 3) dX0_init_85 rfl ?_
  refine rn_icmp_ge (tgt := 141) dX0_init_86 rfl (fun q => absurd q (by decide)) (fun _ => ?_)
  refine rn_aload_n dX0_init_89 rfl ?_
  refine rnT_get (i := 0) hG dX0_init_90 fo_X0_11 rfl rfl ?_
  refine rn_iload_n dX0_init_93 rfl ?_
  refine rnT_new (t := 39) hG rfl dX0_init_94 no_X0_9 ?_
  refine rn_dup dX0_init_97 rfl ?_
  refine rn_aload_n dX0_init_98 rfl ?_
  refine rn_aload_n dX0_init_99 rfl ?_
  refine rnT_get (i := 0) hG dX0_init_100 fo_X0_29 rfl rfl ?_
  refine rn_aload_n dX0_init_103 rfl ?_
  refine rnT_get (i := 0) hG dX0_init_104 fo_X0_36 rfl rfl ?_
  refine rn_iconst (v := 1) dX0_init_107 rfl ?_
  refine rn_h (h2 := ((G ++ [.inr (0, [.ref 2, .ref 39, .ref 44, .ref 37, .ref 38, .ref 47, .ref 50]), tra (va_up (va_up (fun _ => none) 0 (some 55)) 1 (some 65)), tra (va_up (va_up (fun _ => none) 0 (some 60)) 1 (some 70)), .inr (6, [.ref 2, .ref 40, .ref 41, .ref 42, .ref 43, .int 0]), ai16, ai16, ai256, ai256, .inr (4, [.ref 2, .ref 45, .ref 46, .int 0]), af16, ad16, .inr (4, [.ref 2, .ref 48, .ref 49, .int 0]), af16, ad16, tmo 50 47 1, ad512, ad256, ad16, ad16, tmo 55 44 1, ad512, ad256, ad16, ad16, tmo 60 44 0, ad512, ad256, ad16, ad16, tmo 65 44 1, ad512, ad256, ad16, ad16, tmo 70 44 0, ad512, ad256, ad16, ad16]) ++ [.inr (8, [.null, .null, .null, .int 0, .null, .null, .null, .null, .int 0])], sl + 3 + 3 + 6 + 16 + 16 + 256 + 256 + 4 + 16 + 16 + 4 + 16 + 16 + 9 + 512 + 256 + 16 + 16 + 9 + 512 + 256 + 16 + 16 + 9 + 512 + 256 + 16 + 16 + 9 + 512 + 256 + 16 + 16 + 9 + 512 + 256 + 16 + 16 + 9)) (by rw [List.append_assoc]; rfl) ?_
  refine rn_callI dX0_init_108 ci_X0_43 (c_X8_init (a := 74) ⟨rfl, rfl⟩ (by rw [List.length_append, hG]; rfl)) rfl (by decide) (by decide) rfl (Nat.le_of_ble_eq_true rfl) ?_
  refine rn_h (h2 := (G ++ [.inr (0, [.ref 2, .ref 39, .ref 44, .ref 37, .ref 38, .ref 47, .ref 50]), tra (va_up (va_up (fun _ => none) 0 (some 55)) 1 (some 65)), tra (va_up (va_up (fun _ => none) 0 (some 60)) 1 (some 70)), .inr (6, [.ref 2, .ref 40, .ref 41, .ref 42, .ref 43, .int 0]), ai16, ai16, ai256, ai256, .inr (4, [.ref 2, .ref 45, .ref 46, .int 0]), af16, ad16, .inr (4, [.ref 2, .ref 48, .ref 49, .int 0]), af16, ad16, tmo 50 47 1, ad512, ad256, ad16, ad16, tmo 55 44 1, ad512, ad256, ad16, ad16, tmo 60 44 0, ad512, ad256, ad16, ad16, tmo 65 44 1, ad512, ad256, ad16, ad16, tmo 70 44 0, ad512, ad256, ad16, ad16, tmo 75 44 1, ad512, ad256, ad16, ad16], sl + 3 + 3 + 6 + 16 + 16 + 256 + 256 + 4 + 16 + 16 + 4 + 16 + 16 + 9 + 512 + 256 + 16 + 16 + 9 + 512 + 256 + 16 + 16 + 9 + 512 + 256 + 16 + 16 + 9 + 512 + 256 + 16 + 16 + 9 + 512 + 256 + 16 + 16 + 9 + 512 + 256 + 16 + 16)) (by rw [List.append_assoc]; rfl) ?_
  refine rnT_aastore (i := 1) (v := 39) (f := (va_up (va_up (fun _ => none) 0 (some 55)) 1 (some 65))) hG dX0_init_111 rfl rfl rfl rfl (by unfold vp_in; decide) ?_
  refine rn_h (h2 := (G ++ [.inr (0, [.ref 2, .ref 39, .ref 44, .ref 37, .ref 38, .ref 47, .ref 50]), tra (va_up (va_up (va_up (fun _ => none) 0 (some 55)) 1 (some 65)) 2 (some 75)), tra (va_up (va_up (fun _ => none) 0 (some 60)) 1 (some 70)), .inr (6, [.ref 2, .ref 40, .ref 41, .ref 42, .ref 43, .int 0]), ai16, ai16, ai256, ai256, .inr (4, [.ref 2, .ref 45, .ref 46, .int 0]), af16, ad16, .inr (4, [.ref 2, .ref 48, .ref 49, .int 0]), af16, ad16, tmo 50 47 1, ad512, ad256, ad16, ad16, tmo 55 44 1, ad512, ad256, ad16, ad16, tmo 60 44 0, ad512, ad256, ad16, ad16, tmo 65 44 1, ad512, ad256, ad16, ad16, tmo 70 44 0, ad512, ad256, ad16, ad16, tmo 75 44 1, ad512, ad256, ad16, ad16], sl + 3 + 3 + 6 + 16 + 16 + 256 + 256 + 4 + 16 + 16 + 4 + 16 + 16 + 9 + 512 + 256 + 16 + 16 + 9 + 512 + 256 + 16 + 16 + 9 + 512 + 256 + 16 + 16 + 9 + 512 + 256 + 16 + 16 + 9 + 512 + 256 + 16 + 16 + 9 + 512 + 256 + 16 + 16)) rfl ?_
  refine rn_aload_n dX0_init_112 rfl ?_
  refine rnT_get (i := 0) hG dX0_init_113 fo_X0_17 rfl rfl ?_
  refine rn_iload_n dX0_init_116 rfl ?_
  refine rnT_new (t := 44) hG rfl dX0_init_117 no_X0_9 ?_
  refine rn_dup dX0_init_120 rfl ?_
  refine rn_aload_n dX0_init_121 rfl ?_
  refine rn_aload_n dX0_init_122 rfl ?_
  refine rnT_get (i := 0) hG dX0_init_123 fo_X0_29 rfl rfl ?_
  refine rn_aload_n dX0_init_126 rfl ?_
  refine rnT_get (i := 0) hG dX0_init_127 fo_X0_36 rfl rfl ?_
  refine rn_iconst (v := 0) dX0_init_130 rfl ?_
  refine rn_h (h2 := ((G ++ [.inr (0, [.ref 2, .ref 39, .ref 44, .ref 37, .ref 38, .ref 47, .ref 50]), tra (va_up (va_up (va_up (fun _ => none) 0 (some 55)) 1 (some 65)) 2 (some 75)), tra (va_up (va_up (fun _ => none) 0 (some 60)) 1 (some 70)), .inr (6, [.ref 2, .ref 40, .ref 41, .ref 42, .ref 43, .int 0]), ai16, ai16, ai256, ai256, .inr (4, [.ref 2, .ref 45, .ref 46, .int 0]), af16, ad16, .inr (4, [.ref 2, .ref 48, .ref 49, .int 0]), af16, ad16, tmo 50 47 1, ad512, ad256, ad16, ad16, tmo 55 44 1, ad512, ad256, ad16, ad16, tmo 60 44 0, ad512, ad256, ad16, ad16, tmo 65 44 1, ad512, ad256, ad16, ad16, tmo 70 44 0, ad512, ad256, ad16, ad16, tmo 75 44 1, ad512, ad256, ad16, ad16]) ++ [.inr (8, [.null, .null, .null, .int 0, .null, .null, .null, .null, .int 0])], sl + 3 + 3 + 6 + 16 + 16 + 256 + 256 + 4 + 16 + 16 + 4 + 16 + 16 + 9 + 512 + 256 + 16 + 16 + 9 + 512 + 256 + 16 + 16 + 9 + 512 + 256 + 16 + 16 + 9 + 512 + 256 + 16 + 16 + 9 + 512 + 256 + 16 + 16 + 9 + 512 + 256 + 16 + 16 + 9)) (by rw [List.append_assoc]; rfl) ?_
  refine rn_callI dX0_init_131 ci_X0_43 (c_X8_init (a := 79) ⟨rfl, rfl⟩ (by rw [List.length_append, hG]; rfl)) rfl (by decide) (by decide) rfl (Nat.le_of_ble_eq_true rfl) ?_
  refine rn_h (h2 := (G ++ [.inr (0, [.ref 2, .ref 39, .ref 44, .ref 37, .ref 38, .ref 47, .ref 50]), tra (va_up (va_up (va_up (fun _ => none) 0 (some 55)) 1 (some 65)) 2 (some 75)), tra (va_up (va_up (fun _ => none) 0 (some 60)) 1 (some 70)), .inr (6, [.ref 2, .ref 40, .ref 41, .ref 42, .ref 43, .int 0]), ai16, ai16, ai256, ai256, .inr (4, [.ref 2, .ref 45, .ref 46, .int 0]), af16, ad16, .inr (4, [.ref 2, .ref 48, .ref 49, .int 0]), af16, ad16, tmo 50 47 1, ad512, ad256, ad16, ad16, tmo 55 44 1, ad512, ad256, ad16, ad16, tmo 60 44 0, ad512, ad256, ad16, ad16, tmo 65 44 1, ad512, ad256, ad16, ad16, tmo 70 44 0, ad512, ad256, ad16, ad16, tmo 75 44 1, ad512, ad256, ad16, ad16, tmo 80 44 0, ad512, ad256, ad16, ad16], sl + 3 + 3 + 6 + 16 + 16 + 256 + 256 + 4 + 16 + 16 + 4 + 16 + 16 + 9 + 512 + 256 + 16 + 16 + 9 + 512 + 256 + 16 + 16 + 9 + 512 + 256 + 16 + 16 + 9 + 512 + 256 + 16 + 16 + 9 + 512 + 256 + 16 + 16 + 9 + 512 + 256 + 16 + 16 + 9 + 512 + 256 + 16 + 16)) (by rw [List.append_assoc]; rfl) ?_
  refine rnT_aastore (i := 2) (v := 44) (f := (va_up (va_up (fun _ => none) 0 (some 60)) 1 (some 70))) hG dX0_init_134 rfl rfl rfl rfl (by unfold vp_in; decide) ?_
  refine rn_h (h2 := (G ++ [.inr (0, [.ref 2, .ref 39, .ref 44, .ref 37, .ref 38, .ref 47, .ref 50]), tra (va_up (va_up (va_up (fun _ => none) 0 (some 55)) 1 (some 65)) 2 (some 75)), tra (va_up (va_up (va_up (fun _ => none) 0 (some 60)) 1 (some 70)) 2 (some 80)), .inr (6, [.ref 2, .ref 40, .ref 41, .ref 42, .ref 43, .int 0]), ai16, ai16, ai256, ai256, .inr (4, [.ref 2, .ref 45, .ref 46, .int 0]), af16, ad16, .inr (4, [.ref 2, .ref 48, .ref 49, .int 0]), af16, ad16, tmo 50 47 1, ad512, ad256, ad16, ad16, tmo 55 44 1, ad512, ad256, ad16, ad16, tmo 60 44 0, ad512, ad256, ad16, ad16, tmo 65 44 1, ad512, ad256, ad16, ad16, tmo 70 44 0, ad512, ad256, ad16, ad16, tmo 75 44 1, ad512, ad256, ad16, ad16, tmo 80 44 0, ad512, ad256, ad16, ad16], sl + 3 + 3 + 6 + 16 + 16 + 256 + 256 + 4 + 16 + 16 + 4 + 16 + 16 + 9 + 512 + 256 + 16 + 16 + 9 + 512 + 256 + 16 + 16 + 9 + 512 + 256 + 16 + 16 + 9 + 512 + 256 + 16 + 16 + 9 + 512 + 256 + 16 + 16 + 9 + 512 + 256 + 16 + 16 + 9 + 512 + 256 + 16 + 16)) rfl ?_
  refine rn_iinc (v := 3) dX0_init_135 rfl (by decide) (by decide) rfl ?_
  refine rn_goto (tgt := 84) dX0_init_138 rfl ?_
  refine rn_iload_n dX0_init_84 rfl ?_
  refine rn_iconst (v := 3) dX0_init_85 rfl ?_
  refine rn_icmp_ge (tgt := 141) dX0_init_86 rfl (fun _ => ?_) (fun q => absurd (by decide) q)
  refine rn_h (h2 := (G ++ anT, sl + 3 + 3 + 6 + 16 + 16 + 256 + 256 + 4 + 16 + 16 + 4 + 16 + 16 + 9 + 512 + 256 + 16 + 16 + 9 + 512 + 256 + 16 + 16 + 9 + 512 + 256 + 16 + 16 + 9 + 512 + 256 + 16 + 16 + 9 + 512 + 256 + 16 + 16 + 9 + 512 + 256 + 16 + 16 + 9 + 512 + 256 + 16 + 16)) (by rw [anT_e]) ?_
  exact rn_ret dX0_init_141 trivial rfl
end N3
