/-! the law's chip, 4 -/
section CH2
variable {l : Launch} {D : va_G} {ad : Nat → Nat} {tc : Nat → ClassId} {L : Nat} {xs : Nat → Int32} {S : jS} {E : List j_C} {s sF k : Nat} {x K : Int32}
def kF : Nat → Int32 := (upd (upd (upd (upd (upd (upd (upd (upd (upd (fun _ => 0) 0 1) 1 2) 2 3) 3 4) 4 5) 5 6) 6 8) 7 (nI 7)) 8 3)
theorem kF_v : ∀ q, q < 9 → kF q ≠ 0 ∧ kF q ≠ 6 ∧ KV (kF q) ∨ kF q = 6 := by
  unfold KV
  decide +kernel
theorem kF_V {q : Nat} (h : q < 9) : KV (kF q) := by
  rcases kF_v q h with ⟨_, _, z⟩ | z
  · exact z
  · rw [z]
    unfold KV
    decide
theorem ch_147 (hL : L < 1000) (hK : ∀ S E, CI S (k + 1) 0 1 3 → RWs S E (k + 1) → E.length = 2 * k + 3 → kd S 0 ≠ 8 → Gc l D ad tc L xs sF 147 [(6, .int (nI (k + 1))), (5, .ref 85), (4, .int (nI 7)), (3, .int (nI 11)), (2, .int (nI 3)), (1, .ref 0), (0, .ref 1)] [] (wd S E, s + 9 + 7)) (hk : k < 11) (h : CI S k 0 1 3) (hR : RWs S E k) (hE : E.length = 2 * k + 1) (h8 : kd S 0 ≠ 8) : Gc l D ad tc L xs sF 147 [(6, .int (nI k)), (5, .ref 85), (4, .int (nI 7)), (3, .int (nI 11)), (2, .int (nI 3)), (1, .ref 0), (0, .ref 1)] [] (wd S E, s) := by
  have K4 : nI k < nI 11 := nI_lt hk (by decide)
  by_cases k2 : 2 ≤ k
  · have hq := bel_lt (v := (celV L xs (3 + k) + nI (13 * k))) (n := 9) (by decide)
    refine Gc.of (fun r h' z => ?_) (ch_241 (x := (celV L xs (3 + k) + nI (13 * k))) (K := kF (bel (celV L xs (3 + k) + nI (13 * k)) 9)) (kf := kF) hK hk h hR hE h8 (kF_V hq) (fun _ _ => k2))
    refine rn_iload dL_chip_147 rfl ?_
    refine rn_iload_n dL_chip_149 rfl ?_
    refine rn_icmp_ge (tgt := 503) dL_chip_150 rfl (fun q1 => absurd q1 (by exact Int32.not_le.mpr K4)) (fun _ => ?_)
    refine rn_aload_n dL_chip_153 rfl ?_
    refine rn_iload_n dL_chip_154 rfl ?_
    refine rn_iload dL_chip_155 rfl ?_
    refine rn_iadd dL_chip_157 ?_
    refine rn_topi (nI_add _ _) ?_
    refine rn_callS dL_chip_158 cs_L_9 (c_L_cell hL (by omega)) rfl (by decide) (by decide) rfl (Nat.le_of_ble_eq_true rfl) ?_
    refine rn_bipush (v := 13) dL_chip_161 rfl ?_
    refine rn_iload dL_chip_163 rfl ?_
    refine rn_imul dL_chip_165 ?_
    refine rn_topi (nI_mul _ _) ?_
    refine rn_iadd dL_chip_166 ?_
    refine rn_istore dL_chip_167 (by decide) rfl ?_
    refine rn_bipush (v := 9) dL_chip_169 rfl ?_
    refine rnL_new (a := 2 * k + 1 + 84 + 1) (n := 9) (by first | omega | (simp only [List.length_append, List.length_cons, List.length_nil]; omega)) dL_chip_171 (by decide) (by decide) (by decide) ?_
    refine rn_dup dL_chip_173 rfl ?_
    refine rn_iconst (v := nI 0) dL_chip_174 (by decide) ?_
    refine rn_iconst (v := 1) dL_chip_175 rfl ?_
    refine rnL_ias (by first | omega | (simp only [List.length_append, List.length_cons, List.length_nil]; omega)) dL_chip_176 (vp_in_nI (by decide) (by decide)) ?_
    rw [nI_clamp (by decide)]
    refine rn_dup dL_chip_177 rfl ?_
    refine rn_iconst (v := nI 1) dL_chip_178 (by decide) ?_
    refine rn_iconst (v := 2) dL_chip_179 rfl ?_
    refine rnL_ias (by first | omega | (simp only [List.length_append, List.length_cons, List.length_nil]; omega)) dL_chip_180 (vp_in_nI (by decide) (by decide)) ?_
    rw [nI_clamp (by decide)]
    refine rn_dup dL_chip_181 rfl ?_
    refine rn_iconst (v := nI 2) dL_chip_182 (by decide) ?_
    refine rn_iconst (v := 3) dL_chip_183 rfl ?_
    refine rnL_ias (by first | omega | (simp only [List.length_append, List.length_cons, List.length_nil]; omega)) dL_chip_184 (vp_in_nI (by decide) (by decide)) ?_
    rw [nI_clamp (by decide)]
    refine rn_dup dL_chip_185 rfl ?_
    refine rn_iconst (v := nI 3) dL_chip_186 (by decide) ?_
    refine rn_iconst (v := 4) dL_chip_187 rfl ?_
    refine rnL_ias (by first | omega | (simp only [List.length_append, List.length_cons, List.length_nil]; omega)) dL_chip_188 (vp_in_nI (by decide) (by decide)) ?_
    rw [nI_clamp (by decide)]
    refine rn_dup dL_chip_189 rfl ?_
    refine rn_iconst (v := nI 4) dL_chip_190 (by decide) ?_
    refine rn_iconst (v := 5) dL_chip_191 rfl ?_
    refine rnL_ias (by first | omega | (simp only [List.length_append, List.length_cons, List.length_nil]; omega)) dL_chip_192 (vp_in_nI (by decide) (by decide)) ?_
    rw [nI_clamp (by decide)]
    refine rn_dup dL_chip_193 rfl ?_
    refine rn_iconst (v := nI 5) dL_chip_194 (by decide) ?_
    refine rn_bipush (v := 6) dL_chip_195 rfl ?_
    refine rnL_ias (by first | omega | (simp only [List.length_append, List.length_cons, List.length_nil]; omega)) dL_chip_197 (vp_in_nI (by decide) (by decide)) ?_
    rw [nI_clamp (by decide)]
    refine rn_dup dL_chip_198 rfl ?_
    refine rn_bipush (v := nI 6) dL_chip_199 (by decide) ?_
    refine rn_bipush (v := 8) dL_chip_201 rfl ?_
    refine rnL_ias (by first | omega | (simp only [List.length_append, List.length_cons, List.length_nil]; omega)) dL_chip_203 (vp_in_nI (by decide) (by decide)) ?_
    rw [nI_clamp (by decide)]
    refine rn_dup dL_chip_204 rfl ?_
    refine rn_bipush (v := nI 7) dL_chip_205 (by decide) ?_
    refine rn_iload dL_chip_207 rfl ?_
    refine rnL_ias (by first | omega | (simp only [List.length_append, List.length_cons, List.length_nil]; omega)) dL_chip_209 (vp_in_nI (by decide) (by decide)) ?_
    rw [nI_clamp (by decide)]
    refine rn_dup dL_chip_210 rfl ?_
    refine rn_bipush (v := nI 8) dL_chip_211 (by decide) ?_
    refine rn_iconst (v := 3) dL_chip_213 rfl ?_
    refine rnL_ias (by first | omega | (simp only [List.length_append, List.length_cons, List.length_nil]; omega)) dL_chip_214 (vp_in_nI (by decide) (by decide)) ?_
    rw [nI_clamp (by decide)]
    refine rn_astore dL_chip_215 (by decide) rfl ?_
    refine rn_iload dL_chip_217 rfl ?_
    refine rn_iconst (v := 2) dL_chip_219 rfl ?_
    refine rn_icmp_ge (tgt := 231) dL_chip_220 rfl (fun _ => ?_) (fun q2 => absurd (by (rw [show (2 : Int32) = nI 2 by decide]; exact nI_le k2 (by omega))) q2)
    refine rn_aload dL_chip_231 rfl ?_
    refine rn_iload dL_chip_233 rfl ?_
    refine rn_bipush (v := nI 9) dL_chip_235 (by decide) ?_
    refine rn_callS dL_chip_237 cs_L_15 (c_L_below (by decide) (by decide)) rfl (by decide) (by decide) rfl (Nat.le_of_ble_eq_true rfl) ?_
    refine rnL_iald (by first | omega | (simp only [List.length_append, List.length_cons, List.length_nil]; omega)) dL_chip_240 (vp_in_nI (bel_lt (by decide)) (by decide)) ?_
    rw [nI_clamp (Nat.lt_trans (bel_lt (by decide)) (by decide))]
    exact rn_subg rfl z
  · refine Gc.of (fun r h' z => ?_) (ch_241 (x := (celV L xs (3 + k) + nI (13 * k))) (K := nI (6 * k)) (kf := kF) hK hk h hR hE h8 (by rcases (show k = 0 ∨ k = 1 by omega) with rfl | rfl; exact Or.inl rfl; exact Or.inr (Or.inr (Or.inr (Or.inr (Or.inr (Or.inr (Or.inl rfl))))))) (fun z1 z2 => by rcases (show k = 0 ∨ k = 1 by omega) with rfl | rfl; exact absurd rfl z1; exact absurd rfl z2))
    refine rn_iload dL_chip_147 rfl ?_
    refine rn_iload_n dL_chip_149 rfl ?_
    refine rn_icmp_ge (tgt := 503) dL_chip_150 rfl (fun q1 => absurd q1 (by exact Int32.not_le.mpr K4)) (fun _ => ?_)
    refine rn_aload_n dL_chip_153 rfl ?_
    refine rn_iload_n dL_chip_154 rfl ?_
    refine rn_iload dL_chip_155 rfl ?_
    refine rn_iadd dL_chip_157 ?_
    refine rn_topi (nI_add _ _) ?_
    refine rn_callS dL_chip_158 cs_L_9 (c_L_cell hL (by omega)) rfl (by decide) (by decide) rfl (Nat.le_of_ble_eq_true rfl) ?_
    refine rn_bipush (v := 13) dL_chip_161 rfl ?_
    refine rn_iload dL_chip_163 rfl ?_
    refine rn_imul dL_chip_165 ?_
    refine rn_topi (nI_mul _ _) ?_
    refine rn_iadd dL_chip_166 ?_
    refine rn_istore dL_chip_167 (by decide) rfl ?_
    refine rn_bipush (v := 9) dL_chip_169 rfl ?_
    refine rnL_new (a := 2 * k + 1 + 84 + 1) (n := 9) (by first | omega | (simp only [List.length_append, List.length_cons, List.length_nil]; omega)) dL_chip_171 (by decide) (by decide) (by decide) ?_
    refine rn_dup dL_chip_173 rfl ?_
    refine rn_iconst (v := nI 0) dL_chip_174 (by decide) ?_
    refine rn_iconst (v := 1) dL_chip_175 rfl ?_
    refine rnL_ias (by first | omega | (simp only [List.length_append, List.length_cons, List.length_nil]; omega)) dL_chip_176 (vp_in_nI (by decide) (by decide)) ?_
    rw [nI_clamp (by decide)]
    refine rn_dup dL_chip_177 rfl ?_
    refine rn_iconst (v := nI 1) dL_chip_178 (by decide) ?_
    refine rn_iconst (v := 2) dL_chip_179 rfl ?_
    refine rnL_ias (by first | omega | (simp only [List.length_append, List.length_cons, List.length_nil]; omega)) dL_chip_180 (vp_in_nI (by decide) (by decide)) ?_
    rw [nI_clamp (by decide)]
    refine rn_dup dL_chip_181 rfl ?_
    refine rn_iconst (v := nI 2) dL_chip_182 (by decide) ?_
    refine rn_iconst (v := 3) dL_chip_183 rfl ?_
    refine rnL_ias (by first | omega | (simp only [List.length_append, List.length_cons, List.length_nil]; omega)) dL_chip_184 (vp_in_nI (by decide) (by decide)) ?_
    rw [nI_clamp (by decide)]
    refine rn_dup dL_chip_185 rfl ?_
    refine rn_iconst (v := nI 3) dL_chip_186 (by decide) ?_
    refine rn_iconst (v := 4) dL_chip_187 rfl ?_
    refine rnL_ias (by first | omega | (simp only [List.length_append, List.length_cons, List.length_nil]; omega)) dL_chip_188 (vp_in_nI (by decide) (by decide)) ?_
    rw [nI_clamp (by decide)]
    refine rn_dup dL_chip_189 rfl ?_
    refine rn_iconst (v := nI 4) dL_chip_190 (by decide) ?_
    refine rn_iconst (v := 5) dL_chip_191 rfl ?_
    refine rnL_ias (by first | omega | (simp only [List.length_append, List.length_cons, List.length_nil]; omega)) dL_chip_192 (vp_in_nI (by decide) (by decide)) ?_
    rw [nI_clamp (by decide)]
    refine rn_dup dL_chip_193 rfl ?_
    refine rn_iconst (v := nI 5) dL_chip_194 (by decide) ?_
    refine rn_bipush (v := 6) dL_chip_195 rfl ?_
    refine rnL_ias (by first | omega | (simp only [List.length_append, List.length_cons, List.length_nil]; omega)) dL_chip_197 (vp_in_nI (by decide) (by decide)) ?_
    rw [nI_clamp (by decide)]
    refine rn_dup dL_chip_198 rfl ?_
    refine rn_bipush (v := nI 6) dL_chip_199 (by decide) ?_
    refine rn_bipush (v := 8) dL_chip_201 rfl ?_
    refine rnL_ias (by first | omega | (simp only [List.length_append, List.length_cons, List.length_nil]; omega)) dL_chip_203 (vp_in_nI (by decide) (by decide)) ?_
    rw [nI_clamp (by decide)]
    refine rn_dup dL_chip_204 rfl ?_
    refine rn_bipush (v := nI 7) dL_chip_205 (by decide) ?_
    refine rn_iload dL_chip_207 rfl ?_
    refine rnL_ias (by first | omega | (simp only [List.length_append, List.length_cons, List.length_nil]; omega)) dL_chip_209 (vp_in_nI (by decide) (by decide)) ?_
    rw [nI_clamp (by decide)]
    refine rn_dup dL_chip_210 rfl ?_
    refine rn_bipush (v := nI 8) dL_chip_211 (by decide) ?_
    refine rn_iconst (v := 3) dL_chip_213 rfl ?_
    refine rnL_ias (by first | omega | (simp only [List.length_append, List.length_cons, List.length_nil]; omega)) dL_chip_214 (vp_in_nI (by decide) (by decide)) ?_
    rw [nI_clamp (by decide)]
    refine rn_astore dL_chip_215 (by decide) rfl ?_
    refine rn_iload dL_chip_217 rfl ?_
    refine rn_iconst (v := 2) dL_chip_219 rfl ?_
    refine rn_icmp_ge (tgt := 231) dL_chip_220 rfl (fun q2 => absurd q2 (by (rw [show (2 : Int32) = nI 2 by decide]; exact nI_ge (by omega) (by decide)))) (fun _ => ?_)
    refine rn_bipush (v := 6) dL_chip_223 rfl ?_
    refine rn_iload dL_chip_225 rfl ?_
    refine rn_imul dL_chip_227 ?_
    refine rn_topi (nI_mul _ _) ?_
    refine rn_goto (tgt := 241) dL_chip_228 rfl ?_
    exact rn_subg rfl z
end CH2
