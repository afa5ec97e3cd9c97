/-! Delays: what nodes bear, and what they take; x = 43 or 46: whose -/
/-- 1 / 128 of what the load of q quarters makes a node of size 1 take -/
def ub (q : Nat) : Int := if q ≤ 16 then 128 + 8 * q else if q ≤ 32 then 64 + 12 * q else if q ≤ 64 then 64 + 12 * q else 16 * q - 192
theorem ub_r {q : Nat} (h : q ≤ 1000) : 128 ≤ ub q ∧ ub q ≤ 16000 := by unfold ub; (repeat' split) <;> omega
theorem ub_4 (q : Nat) : ∃ k : Int, ub q = 4 * k := by
  unfold ub
  (repeat' split)
  · exact ⟨32 + 2 * q, by omega⟩
  · exact ⟨16 + 3 * q, by omega⟩
  · exact ⟨16 + 3 * q, by omega⟩
  · exact ⟨4 * q - 48, by omega⟩
/-- 1 / 128 of the rise of the node i under q quarters -/
def rho (S : jS) (i q : Nat) : Int := if kd S i = 0 ∨ kd S i = 8 then 0 else ub q / (sI S (i + 13) 5).toInt + (if gaB S i = true then 0 else 256)
theorem rho_r {S : jS} {i q : Nat} (h : q ≤ 1000) (hz : sI S (i + 13) 5 = 1 ∨ sI S (i + 13) 5 = 2 ∨ sI S (i + 13) 5 = 4) : 0 ≤ rho S i q ∧ rho S i q ≤ 17000 := by
  have h1 := ub_r h
  unfold rho
  split
  · omega
  · rcases hz with hz | hz | hz <;> rw [hz]
    · rw [show (1 : Int32).toInt = 1 by decide]; split <;> omega
    · rw [show (2 : Int32).toInt = 2 by decide]; split <;> omega
    · rw [show (4 : Int32).toInt = 4 by decide]; split <;> omega
section D1
variable {l : Launch} {D : va_G} {ad : Nat → Nat} {tc : Nat → ClassId} {L : Nat} {xs : Nat → Int32} {M : j_M} {d lo pc : Nat} {lv : j_L} {st : List Value} {h h' : j_H} {r : Option Value}
theorem rn_ddivv {a : Int} {x : Int32} (hd : decode M.2.1 pc = .ok (.ddiv, 1)) (ha : dB (a * x.toInt)) (hx : 0 < x.toInt) (k : Rn l D ad tc L xs M d lo (pc + 1) lv (.double (dv a) :: st) h r h') : Rn l D ad tc L xs M d lo pc lv (.double (FP.i2d x) :: .double (dv (a * x.toInt)) :: st) h r h' :=
  rn_ddiv hd (by rw [dv_div ha hx]; exact dv_n _) (rn_topd (dv_div ha hx) k)
end D1
section D2
variable {l : Launch} {D : va_G} {ad : Nat → Nat} {tc : Nat → ClassId} {L : Nat} {xs : Nat → Int32} {S : jS} {E : List j_C} {sl : Nat}
set_option maxRecDepth 20000 in
theorem c_X4_unsized {q : Nat} (hq : q ≤ 1000) : Cn l D ad tc L xs mX4_unsized 0 0 [.double (dv (1024 * q))] (wd S E, sl) (some (.double (dv (32 * ub q)))) (wd S E, sl) := by
  refine cn_of (lv0 := [(0, .double (dv (1024 * q)))]) (by decide +kernel) rfl (fun _ => by simp [lg_sl, j_v, Value.category]) (fun _ => rfl) ?_
  refine rn_dload_n dX4_unsized_0 rfl ?_
  refine rn_dcon (n := 0) (m := 16384) dX4_unsized_1 wd_189 (by decide +kernel) ?_
  refine rn_dcmpv dX4_unsized_4 (dB_of (by omega) (by omega)) (dB_of (by omega) (by omega)) ?_
  refine rn_if_gt (tgt := 16) dX4_unsized_5 rfl (fun q1 => ?_) (fun q1 => ?_)
  · rw [cmpI_gt] at q1
    refine rn_dload_n dX4_unsized_16 rfl ?_
    refine rn_dcon (n := 0) (m := 32768) dX4_unsized_17 wd_191 (by decide +kernel) ?_
    refine rn_dcmpv dX4_unsized_20 (dB_of (by omega) (by omega)) (dB_of (by omega) (by omega)) ?_
    refine rn_if_gt (tgt := 38) dX4_unsized_21 rfl (fun q2 => ?_) (fun q2 => ?_)
    · rw [cmpI_gt] at q2
      refine rn_dload_n dX4_unsized_38 rfl ?_
      refine rn_dcon (n := 0) (m := 65536) dX4_unsized_39 wd_193 (by decide +kernel) ?_
      refine rn_dcmpv dX4_unsized_42 (dB_of (by omega) (by omega)) (dB_of (by omega) (by omega)) ?_
      refine rn_if_gt (tgt := 60) dX4_unsized_43 rfl (fun q3 => ?_) (fun q3 => ?_)
      · rw [cmpI_gt] at q3
        refine rn_dcon (n := 0) (m := 26624) dX4_unsized_60 wd_195 (by decide +kernel) ?_
        refine rn_dload_n dX4_unsized_63 rfl ?_
        refine rn_dcon (n := 0) (m := 65536) dX4_unsized_64 wd_193 (by decide +kernel) ?_
        refine rn_dsubv dX4_unsized_67 (dB_of (by omega) (by omega)) (dB_of (by omega) (by omega)) ?_
        refine rn_dcon (n := 0) (m := 2048) dX4_unsized_68 wd_196 (by decide +kernel) ?_
        refine rn_dmulv (c := 512 * q - 32768) dX4_unsized_71 (dB_of (by omega) (by omega)) (dB_of (by omega) (by omega)) (by omega) (by omega) (by omega) ?_
        refine rn_daddv dX4_unsized_72 (dB_of (by omega) (by omega)) (dB_of (by omega) (by omega)) ?_
        exact rn_ret dX4_unsized_73 trivial (by show [Value.double (dv _)] = [Value.double (dv _)]; congr 3; unfold ub; (repeat' split) <;> omega)
      · rw [cmpI_gt] at q3
        refine rn_dcon (n := 0) (m := 14336) dX4_unsized_46 wd_194 (by decide +kernel) ?_
        refine rn_dload_n dX4_unsized_49 rfl ?_
        refine rn_dcon (n := 0) (m := 32768) dX4_unsized_50 wd_191 (by decide +kernel) ?_
        refine rn_dsubv dX4_unsized_53 (dB_of (by omega) (by omega)) (dB_of (by omega) (by omega)) ?_
        refine rn_dcon (n := 0) (m := 1536) dX4_unsized_54 wd_192 (by decide +kernel) ?_
        refine rn_dmulv (c := 384 * q - 12288) dX4_unsized_57 (dB_of (by omega) (by omega)) (dB_of (by omega) (by omega)) (by omega) (by omega) (by omega) ?_
        refine rn_daddv dX4_unsized_58 (dB_of (by omega) (by omega)) (dB_of (by omega) (by omega)) ?_
        exact rn_ret dX4_unsized_59 trivial (by show [Value.double (dv _)] = [Value.double (dv _)]; congr 3; unfold ub; (repeat' split) <;> omega)
    · rw [cmpI_gt] at q2
      refine rn_dcon (n := 0) (m := 8192) dX4_unsized_24 wd_188 (by decide +kernel) ?_
      refine rn_dload_n dX4_unsized_27 rfl ?_
      refine rn_dcon (n := 0) (m := 16384) dX4_unsized_28 wd_189 (by decide +kernel) ?_
      refine rn_dsubv dX4_unsized_31 (dB_of (by omega) (by omega)) (dB_of (by omega) (by omega)) ?_
      refine rn_dcon (n := 0) (m := 1536) dX4_unsized_32 wd_192 (by decide +kernel) ?_
      refine rn_dmulv (c := 384 * q - 6144) dX4_unsized_35 (dB_of (by omega) (by omega)) (dB_of (by omega) (by omega)) (by omega) (by omega) (by omega) ?_
      refine rn_daddv dX4_unsized_36 (dB_of (by omega) (by omega)) (dB_of (by omega) (by omega)) ?_
      exact rn_ret dX4_unsized_37 trivial (by show [Value.double (dv _)] = [Value.double (dv _)]; congr 3; unfold ub; (repeat' split) <;> omega)
  · rw [cmpI_gt] at q1
    refine rn_dcon1 dX4_unsized_8 ?_
    refine rn_dload_n dX4_unsized_9 rfl ?_
    refine rn_dcon (n := 0) (m := 1024) dX4_unsized_10 wd_190 (by decide +kernel) ?_
    refine rn_dmulv (c := 256 * q) dX4_unsized_13 (dB_of (by omega) (by omega)) (dB_of (by omega) (by omega)) (by omega) (by omega) (by omega) ?_
    refine rn_daddv dX4_unsized_14 (dB_of (by omega) (by omega)) (dB_of (by omega) (by omega)) ?_
    exact rn_ret dX4_unsized_15 trivial (by show [Value.double (dv _)] = [Value.double (dv _)]; congr 3; unfold ub; (repeat' split) <;> omega)
set_option maxRecDepth 20000 in
theorem c_X4_riseOf {i q : Nat} (hi : i < 16) (hq : q ≤ 1000) (hz : sI S (i + 13) 5 = 1 ∨ sI S (i + 13) 5 = 2 ∨ sI S (i + 13) 5 = 4) : Cn l D ad tc L xs mX4_riseOf 1 21 [.ref (i + 14), .double (dv (1024 * q))] (wd S E, sl) (some (.double (dv (32 * rho S i q)))) (wd S E, sl) := by
  refine cn_of (lv0 := [(0, .ref (i + 14)), (1, .double (dv (1024 * q)))]) (by decide +kernel) rfl (fun _ => by simp [lg_sl, j_v, Value.category]) (fun _ => rfl) ?_
  have hu := ub_r hq
  obtain ⟨k4, hk4⟩ := ub_4 q
  obtain ⟨z, hz0, hz1, hz2, hzd⟩ : ∃ z : Int32, sI S (i + 13) 5 = z ∧ 0 < z.toInt ∧ z.toInt ≤ 4 ∧ 32 * ub q = 32 * (ub q / z.toInt) * z.toInt := by
    rcases hz with hz | hz | hz <;> refine ⟨_, hz, by decide, by decide, ?_⟩
    · rw [show (1 : Int32).toInt = 1 by decide]; omega
    · rw [show (2 : Int32).toInt = 2 by decide]; omega
    · rw [show (4 : Int32).toInt = 4 by decide]; omega
  have hdb : dB (32 * (ub q / z.toInt) * z.toInt) := by rw [← hzd]; exact dB_of (by omega) (by omega)
  have hq0 : 0 ≤ ub q / z.toInt := Int.ediv_nonneg (by omega) (by omega)
  have hq1 : ub q / z.toInt ≤ ub q := Int.ediv_le_self _ (by omega)
  refine rn_aload_n dX4_riseOf_0 rfl ?_
  refine rn_getfield dX4_riseOf_1 fo_X4_46 (h_node (by omega)) rfl ?_
  refine rn_if_eq (tgt := 26) dX4_riseOf_4 rfl (fun q1 => ?_) (fun q1 => ?_)
  · refine rn_dcon0 dX4_riseOf_26 ?_
    exact rn_ret dX4_riseOf_27 trivial (by rw [show rho S i q = 0 by unfold rho; rw [if_pos (show kd S i = 0 ∨ kd S i = 8 from Or.inl q1)], Int.mul_zero]; rfl)
  · refine rn_aload_n dX4_riseOf_7 rfl ?_
    refine rn_getfield dX4_riseOf_8 fo_X4_46 (h_node (by omega)) rfl ?_
    refine rn_bipush (v := 8) dX4_riseOf_11 rfl ?_
    refine rn_icmp_eq (tgt := 26) dX4_riseOf_13 rfl (fun q2 => ?_) (fun q2 => ?_)
    · refine rn_dcon0 dX4_riseOf_26 ?_
      exact rn_ret dX4_riseOf_27 trivial (by rw [show rho S i q = 0 by unfold rho; rw [if_pos (show kd S i = 0 ∨ kd S i = 8 from Or.inr q2)], Int.mul_zero]; rfl)
    · refine rn_aload_n dX4_riseOf_16 rfl ?_
      refine rn_getfield dX4_riseOf_17 fo_X4_50 (h_node (by omega)) rfl ?_
      refine rn_callSN dX4_riseOf_20 csn_X4_71 c_X9_isSize rfl (by decide) (by decide) rfl (Nat.le_of_ble_eq_true rfl) ?_
      refine rn_if_ne (tgt := 28) dX4_riseOf_23 rfl (fun q3 => ?_) (fun q3 => ?_)
      · refine rn_dload_n dX4_riseOf_28 rfl ?_
        refine rn_callS dX4_riseOf_29 cs_X4_74 (c_X4_unsized hq) rfl (by decide) (by decide) rfl (Nat.le_of_ble_eq_true rfl) ?_
        refine rn_aload_n dX4_riseOf_32 rfl ?_
        rw [hzd]
        refine rn_getfield dX4_riseOf_33 fo_X4_50 (h_node (by omega)) rfl ?_
        refine rn_i2d dX4_riseOf_36 ?_
        rw [hz0]
        refine rn_ddivv dX4_riseOf_37 hdb hz1 ?_
        refine rn_dstore_n dX4_riseOf_38 (by decide) rfl ?_
        refine rn_aload_n dX4_riseOf_39 rfl ?_
        refine rn_callV dX4_riseOf_40 cv_X4_78 (c_X5_isGate hi) rfl (h_node (by omega)) rfl rfl (by decide) (by decide) rfl (Nat.le_of_ble_eq_true rfl) ?_
        refine rn_if_eq (tgt := 50) dX4_riseOf_43 rfl (fun q4 => ?_) (fun q4 => ?_)
        · refine rn_dload_n dX4_riseOf_50 rfl ?_
          refine rn_dcon (n := 0) (m := 8192) dX4_riseOf_51 wd_188 (by decide +kernel) ?_
          refine rn_daddv dX4_riseOf_54 (dB_of (by omega) (by omega)) (dB_of (by omega) (by omega)) ?_
          exact rn_ret dX4_riseOf_55 trivial (by rw [bI_0] at q4; replace q4 : gaB S i = false := q4; show [Value.double (dv _)] = [Value.double (dv _)]; congr 3; unfold rho; rw [if_neg (fun z => z.elim q1 q2), hz0, if_neg (by rw [q4]; decide)]; omega)
        · refine rn_dload_n dX4_riseOf_46 rfl ?_
          refine rn_goto (tgt := 55) dX4_riseOf_47 rfl ?_
          exact rn_ret dX4_riseOf_55 trivial (by rw [bI_n] at q4; replace q4 : gaB S i = true := q4; show [Value.double (dv _)] = [Value.double (dv _)]; congr 3; unfold rho; rw [if_neg (fun z => z.elim q1 q2), hz0, if_pos q4]; omega)
      · rw [bI_0, decide_eq_false_iff_not] at q3
        exact absurd hz q3
end D2
