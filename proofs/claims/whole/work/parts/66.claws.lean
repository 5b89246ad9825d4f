/-! the class's laws: a stack of longs -/
def ERR : Int := -9223372036854775808
def jnv (s a b : Int) : Int := if s = 3 then bz (decide (a ≠ 0 ∨ b ≠ 0)) else if s = 4 then bz (decide (a ≠ 0 ∧ b ≠ 0)) else if s = 11 then a + b else if s = 12 then a - b else if s = 13 then (if over (a * b) = true then ERR else a * b) else if s = 14 then (if b = 0 then ERR else a.tdiv b) else bz (cmpb s a b)
theorem over_ERR : over ERR = true := rfl
theorem over_bz (b : Bool) : over (bz b) = false := by cases b <;> rfl
theorem over_in {x : Int} (h : inB x) : over x = false := by unfold over; unfold inB at h; simp; omega
theorem jn_bin {s a b : Int} (hs : 3 ≤ s ∧ s ≤ 14) (ha : inB a) (hb : inB b) : bin (swp s) a b = if over (jnv s a b) = true then none else some (jnv s a b) := by
  have hs' : swp s = if s = 3 then 4 else if s = 4 then 3 else s := rfl
  unfold bin jnv
  by_cases c3 : s = 3
  · subst c3; simp [swp, over_bz]
  by_cases c4 : s = 4
  · subst c4; simp [swp, over_bz]
  have es : swp s = s := by unfold swp; rw [if_neg c3, if_neg c4]
  rw [es]
  simp only [if_neg c3, if_neg c4]
  by_cases c11 : s = 11
  · simp [c11]
  by_cases c12 : s = 12
  · simp [c12]
  by_cases c13 : s = 13
  · simp only [c13]
    simp
    by_cases o : over (a * b) = true
    · simp [o, over_ERR]
    · simp [o]
  by_cases c14 : s = 14
  · simp only [c14]
    simp
    by_cases o : b = 0
    · simp [o, over_ERR]
    · simp [o, over_in (tdiv_inB ha)]
  simp [c11, c12, c13, c14, over_bz]
theorem jn_rng {s a b : Int} (ha : inB a) (hb : inB b) : rl (jnv s a b) := by
  have h1 : ∀ c, rl (bz c) := fun c => by cases c <;> (unfold rl bz; simp)
  unfold jnv
  (repeat' split)
  · exact h1 _
  · exact h1 _
  · unfold rl; unfold inB at *; omega
  · unfold rl; unfold inB at *; omega
  · unfold rl ERR; omega
  · rename_i o; exact mul_rl (by simpa using o)
  · unfold rl ERR; omega
  · have := tdiv_inB (b := b) ha; unfold rl; unfold inB at this; omega
  · exact h1 _
theorem abs_over {a b : Int} (ha : a ≠ 0) (hA : inB a) (hB : inB b) : (1000000000000 / (if a < 0 then -a else a) < b ∨ b < -(1000000000000 / (if a < 0 then -a else a))) ↔ over (a * b) = true := by
  by_cases hb : b = 0
  · subst hb
    have : 1 ≤ 1000000000000 / (if a < 0 then -a else a) := by
      unfold inB at hA
      refine (Int.le_ediv_iff_mul_le (by split <;> omega)).mpr ?_
      split <;> omega
    simp [over]
    omega
  · rw [← mul_over ha hb]
    split <;> omega
section JOIN
variable {ρ : RT} {f : IT} {g : JT}
theorem c_join {s a b : Int} (hs : 3 ≤ s ∧ s ≤ 14) (ha : inB a) (hb : inB b) : C_X1_join [.int (iz s), .long (lz a), .long (lz b)] ρ f g (fun r ρ' f' g' => r = some (.long (lz (jnv s a b))) ∧ ρ' = ρ ∧ f' = f ∧ g' = g) := by
  have ha' := ha
  have hb' := hb
  unfold inB at ha' hb'
  have rla : rl a := by unfold rl; omega
  have rlb : rl b := by unfold rl; omega
  have rl0 : rl 0 := by unfold rl; omega
  refine Ct.ofV (by decide) rfl (Nat.le_of_ble_eq_true rfl) ?_
  by_cases c13 : s = 13
  · subst c13
    have ej : jnv 13 a b = if over (a * b) = true then ERR else a * b := rfl
    rw [ej]
    by_cases a0 : a = 0
    · have eo : over (a * b) = false := by rw [a0, Int.zero_mul]; rfl
      rw [eo, if_neg Bool.false_ne_true]
      refine V_il0n dX1_join_0 ?_
      skip
      · refine V_tabIn (tgt := 180) (i := 10) dX1_join_1 (by first | rfl | omega) (by decide) (by first | decide | assumption | (unfold ri at *; omega)) rfl rfl ?_
        refine V_ll1n dX1_join_180 ?_
        refine V_lconst (a := 0) dX1_join_181 rfl ?_
        refine V_lif_ne (tgt := 192) dX1_join_182 dX1_join_183 rfl rla rl0 (fun b183 => ?_) (fun b183 => ?_)
        · exact absurd a0 b183
        · refine V_ldc2_w (a := 1000000000000) kl_X1_54 rfl dX1_join_186 ?_
          refine V_goto (tgt := 208) dX1_join_189 rfl ?_
          refine V_ls5 dX1_join_208 (by decide) rfl ?_
          refine V_ll3n dX1_join_210 ?_
          refine V_ll5 dX1_join_211 ?_
          refine V_lif_gt (tgt := 225) dX1_join_213 dX1_join_214 rfl rlb (by unfold rl; omega) (fun b214 => ?_) (fun b214 => ?_)
          · exfalso; omega
          · refine V_ll3n dX1_join_217 ?_
            refine V_ll5 dX1_join_218 ?_
            refine V_lneg dX1_join_220 ?_
            refine V_lif_ge (tgt := 231) dX1_join_221 dX1_join_222 rfl rlb (by unfold rl; omega) (fun b222 => ?_) (fun b222 => ?_)
            · refine V_ll1n dX1_join_231 ?_
              refine V_ll3n dX1_join_232 ?_
              refine V_lmul dX1_join_233 ?_
              exact V_lreturn rfl ⟨rfl, rfl, rfl, rfl⟩ dX1_join_234
            · exfalso; omega
    · have hab := abs_over (b := b) a0 ha hb
      have hp : 0 < (if a < 0 then -a else a) := by split <;> omega
      have hr := rl_div hp
      have hq0 : 0 ≤ 1000000000000 / (if a < 0 then -a else a) := Int.ediv_nonneg (by omega) (by omega)
      have X : ∀ m, m = 1000000000000 / (if a < 0 then -a else a) → V_X1_join (fun r ρ' f' g' => r = some (.long (lz (if over (a * b) = true then ERR else a * b))) ∧ ρ' = ρ ∧ f' = f ∧ g' = g) 208 [.int (iz 13), .long (lz a), .null, .long (lz b), .null, .null, .null] [.long (lz m)] ρ f g := fun m hm => by
        rw [← hm] at hab hr hq0
        have hr2 : rl (-m) := by unfold rl at *; omega
        refine V_ls5 dX1_join_208 (by decide) rfl ?_
        refine V_ll3n dX1_join_210 ?_
        refine V_ll5 dX1_join_211 ?_
        refine V_lif_gt (tgt := 225) dX1_join_213 dX1_join_214 rfl rlb hr (fun b214 => ?_) (fun b214 => ?_)
        · refine V_ldc2_w (a := -9223372036854775808) kl_X1_48 rfl dX1_join_225 ?_
          refine V_goto (tgt := 234) dX1_join_228 rfl ?_
          exact V_lreturn rfl (by first | (rw [if_pos (hab.mp (by omega))]; exact ⟨rfl, rfl, rfl, rfl⟩) | (rw [if_neg (fun q => by have := hab.mpr q; omega)]; exact ⟨rfl, rfl, rfl, rfl⟩)) dX1_join_234
        · refine V_ll3n dX1_join_217 ?_
          refine V_ll5 dX1_join_218 ?_
          refine V_lneg dX1_join_220 ?_
          refine V_lif_ge (tgt := 231) dX1_join_221 dX1_join_222 rfl rlb hr2 (fun b222 => ?_) (fun b222 => ?_)
          · refine V_ll1n dX1_join_231 ?_
            refine V_ll3n dX1_join_232 ?_
            refine V_lmul dX1_join_233 ?_
            exact V_lreturn rfl (by first | (rw [if_pos (hab.mp (by omega))]; exact ⟨rfl, rfl, rfl, rfl⟩) | (rw [if_neg (fun q => by have := hab.mpr q; omega)]; exact ⟨rfl, rfl, rfl, rfl⟩)) dX1_join_234
          · refine V_ldc2_w (a := -9223372036854775808) kl_X1_48 rfl dX1_join_225 ?_
            refine V_goto (tgt := 234) dX1_join_228 rfl ?_
            exact V_lreturn rfl (by first | (rw [if_pos (hab.mp (by omega))]; exact ⟨rfl, rfl, rfl, rfl⟩) | (rw [if_neg (fun q => by have := hab.mpr q; omega)]; exact ⟨rfl, rfl, rfl, rfl⟩)) dX1_join_234
      refine V_il0n dX1_join_0 ?_
      skip
      · refine V_tabIn (tgt := 180) (i := 10) dX1_join_1 (by first | rfl | omega) (by decide) (by first | decide | assumption | (unfold ri at *; omega)) rfl rfl ?_
        refine V_ll1n dX1_join_180 ?_
        refine V_lconst (a := 0) dX1_join_181 rfl ?_
        refine V_lif_ne (tgt := 192) dX1_join_182 dX1_join_183 rfl rla rl0 (fun b183 => ?_) (fun b183 => ?_)
        · refine V_ldc2_w (a := 1000000000000) kl_X1_54 rfl dX1_join_192 ?_
          refine V_ll1n dX1_join_195 ?_
          refine V_lconst (a := 0) dX1_join_196 rfl ?_
          refine V_lif_ge (tgt := 206) dX1_join_197 dX1_join_198 rfl rla rl0 (fun b198 => ?_) (fun b198 => ?_)
          · refine V_ll1n dX1_join_206 ?_
            refine V_ldiv dX1_join_207 (lz_ne (by unfold rl; omega) (by omega)) (lz_div (by omega) (by omega) (by unfold rl; omega) (by unfold rl; omega)) ?_
            exact X _ (by first | (rw [if_pos (by omega)]) | (rw [if_neg (by omega)]))
          · refine V_ll1n dX1_join_201 ?_
            refine V_lneg dX1_join_202 ?_
            refine V_goto (tgt := 207) dX1_join_203 rfl ?_
            refine V_ldiv dX1_join_207 (lz_ne (by unfold rl; omega) (by omega)) (lz_div (by omega) (by omega) (by unfold rl; omega) (by unfold rl; omega)) ?_
            exact X _ (by first | (rw [if_pos (by omega)]) | (rw [if_neg (by omega)]))
        · exact absurd b183 a0
  · refine V_il0n dX1_join_0 ?_
    rcases (show s = 3 ∨ s = 4 ∨ s = 5 ∨ s = 6 ∨ s = 7 ∨ s = 8 ∨ s = 9 ∨ s = 10 ∨ s = 11 ∨ s = 12 ∨ s = 14 by omega) with rfl | rfl | rfl | rfl | rfl | rfl | rfl | rfl | rfl | rfl | rfl
    · refine V_tabIn (tgt := 64) (i := 0) dX1_join_1 (by first | rfl | omega) (by decide) (by first | decide | assumption | (unfold ri at *; omega)) rfl rfl ?_
      refine V_ll1n dX1_join_64 ?_
      refine V_lconst (a := 0) dX1_join_65 rfl ?_
      refine V_lif_ne (tgt := 76) dX1_join_66 dX1_join_67 rfl rla rl0 (fun b67 => ?_) (fun b67 => ?_)
      · refine V_lconst (a := 1) dX1_join_76 rfl ?_
        refine V_goto (tgt := 81) dX1_join_77 rfl ?_
        exact V_lreturn rfl ⟨by unfold jnv bz; simp; congr 3; first | (rw [if_pos (by omega)]) | (rw [if_neg (by omega)]), rfl, rfl, rfl⟩ dX1_join_81
      · refine V_ll3n dX1_join_70 ?_
        refine V_lconst (a := 0) dX1_join_71 rfl ?_
        refine V_lif_eq (tgt := 80) dX1_join_72 dX1_join_73 rfl rlb rl0 (fun b73 => ?_) (fun b73 => ?_)
        · refine V_lconst (a := 0) dX1_join_80 rfl ?_
          exact V_lreturn rfl ⟨by unfold jnv bz; simp; congr 3; first | (rw [if_pos (by omega)]) | (rw [if_neg (by omega)]), rfl, rfl, rfl⟩ dX1_join_81
        · refine V_lconst (a := 1) dX1_join_76 rfl ?_
          refine V_goto (tgt := 81) dX1_join_77 rfl ?_
          exact V_lreturn rfl ⟨by unfold jnv bz; simp; congr 3; first | (rw [if_pos (by omega)]) | (rw [if_neg (by omega)]), rfl, rfl, rfl⟩ dX1_join_81
    · refine V_tabIn (tgt := 82) (i := 1) dX1_join_1 (by first | rfl | omega) (by decide) (by first | decide | assumption | (unfold ri at *; omega)) rfl rfl ?_
      refine V_ll1n dX1_join_82 ?_
      refine V_lconst (a := 0) dX1_join_83 rfl ?_
      refine V_lif_eq (tgt := 98) dX1_join_84 dX1_join_85 rfl rla rl0 (fun b85 => ?_) (fun b85 => ?_)
      · refine V_lconst (a := 0) dX1_join_98 rfl ?_
        exact V_lreturn rfl ⟨by unfold jnv bz; simp; congr 3; first | (rw [if_pos (by omega)]) | (rw [if_neg (by omega)]), rfl, rfl, rfl⟩ dX1_join_99
      · refine V_ll3n dX1_join_88 ?_
        refine V_lconst (a := 0) dX1_join_89 rfl ?_
        refine V_lif_eq (tgt := 98) dX1_join_90 dX1_join_91 rfl rlb rl0 (fun b91 => ?_) (fun b91 => ?_)
        · refine V_lconst (a := 0) dX1_join_98 rfl ?_
          exact V_lreturn rfl ⟨by unfold jnv bz; simp; congr 3; first | (rw [if_pos (by omega)]) | (rw [if_neg (by omega)]), rfl, rfl, rfl⟩ dX1_join_99
        · refine V_lconst (a := 1) dX1_join_94 rfl ?_
          refine V_goto (tgt := 99) dX1_join_95 rfl ?_
          exact V_lreturn rfl ⟨by unfold jnv bz; simp; congr 3; first | (rw [if_pos (by omega)]) | (rw [if_neg (by omega)]), rfl, rfl, rfl⟩ dX1_join_99
    · refine V_tabIn (tgt := 100) (i := 2) dX1_join_1 (by first | rfl | omega) (by decide) (by first | decide | assumption | (unfold ri at *; omega)) rfl rfl ?_
      refine V_ll1n dX1_join_100 ?_
      refine V_ll3n dX1_join_101 ?_
      refine V_lif_ge (tgt := 110) dX1_join_102 dX1_join_103 rfl rla rlb (fun b103 => ?_) (fun b103 => ?_)
      · refine V_lconst (a := 0) dX1_join_110 rfl ?_
        exact V_lreturn rfl ⟨by unfold jnv bz cmpb; simp; congr 3; first | (rw [if_pos (by omega)]) | (rw [if_neg (by omega)]), rfl, rfl, rfl⟩ dX1_join_111
      · refine V_lconst (a := 1) dX1_join_106 rfl ?_
        refine V_goto (tgt := 111) dX1_join_107 rfl ?_
        exact V_lreturn rfl ⟨by unfold jnv bz cmpb; simp; congr 3; first | (rw [if_pos (by omega)]) | (rw [if_neg (by omega)]), rfl, rfl, rfl⟩ dX1_join_111
    · refine V_tabIn (tgt := 112) (i := 3) dX1_join_1 (by first | rfl | omega) (by decide) (by first | decide | assumption | (unfold ri at *; omega)) rfl rfl ?_
      refine V_ll1n dX1_join_112 ?_
      refine V_ll3n dX1_join_113 ?_
      refine V_lif_gt (tgt := 122) dX1_join_114 dX1_join_115 rfl rla rlb (fun b115 => ?_) (fun b115 => ?_)
      · refine V_lconst (a := 0) dX1_join_122 rfl ?_
        exact V_lreturn rfl ⟨by unfold jnv bz cmpb; simp; congr 3; first | (rw [if_pos (by omega)]) | (rw [if_neg (by omega)]), rfl, rfl, rfl⟩ dX1_join_123
      · refine V_lconst (a := 1) dX1_join_118 rfl ?_
        refine V_goto (tgt := 123) dX1_join_119 rfl ?_
        exact V_lreturn rfl ⟨by unfold jnv bz cmpb; simp; congr 3; first | (rw [if_pos (by omega)]) | (rw [if_neg (by omega)]), rfl, rfl, rfl⟩ dX1_join_123
    · refine V_tabIn (tgt := 124) (i := 4) dX1_join_1 (by first | rfl | omega) (by decide) (by first | decide | assumption | (unfold ri at *; omega)) rfl rfl ?_
      refine V_ll1n dX1_join_124 ?_
      refine V_ll3n dX1_join_125 ?_
      refine V_lif_ne (tgt := 134) dX1_join_126 dX1_join_127 rfl rla rlb (fun b127 => ?_) (fun b127 => ?_)
      · refine V_lconst (a := 0) dX1_join_134 rfl ?_
        exact V_lreturn rfl ⟨by unfold jnv bz cmpb; simp; congr 3; first | (rw [if_pos (by omega)]) | (rw [if_neg (by omega)]), rfl, rfl, rfl⟩ dX1_join_135
      · refine V_lconst (a := 1) dX1_join_130 rfl ?_
        refine V_goto (tgt := 135) dX1_join_131 rfl ?_
        exact V_lreturn rfl ⟨by unfold jnv bz cmpb; simp; congr 3; first | (rw [if_pos (by omega)]) | (rw [if_neg (by omega)]), rfl, rfl, rfl⟩ dX1_join_135
    · refine V_tabIn (tgt := 136) (i := 5) dX1_join_1 (by first | rfl | omega) (by decide) (by first | decide | assumption | (unfold ri at *; omega)) rfl rfl ?_
      refine V_ll1n dX1_join_136 ?_
      refine V_ll3n dX1_join_137 ?_
      refine V_lif_eq (tgt := 146) dX1_join_138 dX1_join_139 rfl rla rlb (fun b139 => ?_) (fun b139 => ?_)
      · refine V_lconst (a := 0) dX1_join_146 rfl ?_
        exact V_lreturn rfl ⟨by unfold jnv bz cmpb; simp; congr 3; first | (rw [if_pos (by omega)]) | (rw [if_neg (by omega)]), rfl, rfl, rfl⟩ dX1_join_147
      · refine V_lconst (a := 1) dX1_join_142 rfl ?_
        refine V_goto (tgt := 147) dX1_join_143 rfl ?_
        exact V_lreturn rfl ⟨by unfold jnv bz cmpb; simp; congr 3; first | (rw [if_pos (by omega)]) | (rw [if_neg (by omega)]), rfl, rfl, rfl⟩ dX1_join_147
    · refine V_tabIn (tgt := 148) (i := 6) dX1_join_1 (by first | rfl | omega) (by decide) (by first | decide | assumption | (unfold ri at *; omega)) rfl rfl ?_
      refine V_ll1n dX1_join_148 ?_
      refine V_ll3n dX1_join_149 ?_
      refine V_lif_lt (tgt := 158) dX1_join_150 dX1_join_151 rfl rla rlb (fun b151 => ?_) (fun b151 => ?_)
      · refine V_lconst (a := 0) dX1_join_158 rfl ?_
        exact V_lreturn rfl ⟨by unfold jnv bz cmpb; simp; congr 3; first | (rw [if_pos (by omega)]) | (rw [if_neg (by omega)]), rfl, rfl, rfl⟩ dX1_join_159
      · refine V_lconst (a := 1) dX1_join_154 rfl ?_
        refine V_goto (tgt := 159) dX1_join_155 rfl ?_
        exact V_lreturn rfl ⟨by unfold jnv bz cmpb; simp; congr 3; first | (rw [if_pos (by omega)]) | (rw [if_neg (by omega)]), rfl, rfl, rfl⟩ dX1_join_159
    · refine V_tabIn (tgt := 160) (i := 7) dX1_join_1 (by first | rfl | omega) (by decide) (by first | decide | assumption | (unfold ri at *; omega)) rfl rfl ?_
      refine V_ll1n dX1_join_160 ?_
      refine V_ll3n dX1_join_161 ?_
      refine V_lif_le (tgt := 170) dX1_join_162 dX1_join_163 rfl rla rlb (fun b163 => ?_) (fun b163 => ?_)
      · refine V_lconst (a := 0) dX1_join_170 rfl ?_
        exact V_lreturn rfl ⟨by unfold jnv bz cmpb; simp; congr 3; first | (rw [if_pos (by omega)]) | (rw [if_neg (by omega)]), rfl, rfl, rfl⟩ dX1_join_171
      · refine V_lconst (a := 1) dX1_join_166 rfl ?_
        refine V_goto (tgt := 171) dX1_join_167 rfl ?_
        exact V_lreturn rfl ⟨by unfold jnv bz cmpb; simp; congr 3; first | (rw [if_pos (by omega)]) | (rw [if_neg (by omega)]), rfl, rfl, rfl⟩ dX1_join_171
    · refine V_tabIn (tgt := 172) (i := 8) dX1_join_1 (by first | rfl | omega) (by decide) (by first | decide | assumption | (unfold ri at *; omega)) rfl rfl ?_
      refine V_ll1n dX1_join_172 ?_
      refine V_ll3n dX1_join_173 ?_
      refine V_ladd dX1_join_174 ?_
      exact V_lreturn rfl ⟨rfl, rfl, rfl, rfl⟩ dX1_join_175
    · refine V_tabIn (tgt := 176) (i := 9) dX1_join_1 (by first | rfl | omega) (by decide) (by first | decide | assumption | (unfold ri at *; omega)) rfl rfl ?_
      refine V_ll1n dX1_join_176 ?_
      refine V_ll3n dX1_join_177 ?_
      refine V_lsub dX1_join_178 ?_
      exact V_lreturn rfl ⟨rfl, rfl, rfl, rfl⟩ dX1_join_179
    · refine V_tabIn (tgt := 235) (i := 11) dX1_join_1 (by first | rfl | omega) (by decide) (by first | decide | assumption | (unfold ri at *; omega)) rfl rfl ?_
      refine V_ll3n dX1_join_235 ?_
      refine V_lconst (a := 0) dX1_join_236 rfl ?_
      refine V_lif_ne (tgt := 247) dX1_join_237 dX1_join_238 rfl rlb rl0 (fun b238 => ?_) (fun b238 => ?_)
      · refine V_ll1n dX1_join_247 ?_
        refine V_ll3n dX1_join_248 ?_
        refine V_ldiv dX1_join_249 (lz_ne rlb (by assumption)) (lz_tdiv (by assumption) ha' hb') ?_
        exact V_lreturn rfl ⟨by unfold jnv ERR; simp; first | (rw [if_pos (by assumption)]) | (rw [if_neg (by assumption)]), rfl, rfl, rfl⟩ dX1_join_250
      · refine V_ldc2_w (a := -9223372036854775808) kl_X1_48 rfl dX1_join_241 ?_
        refine V_goto (tgt := 250) dX1_join_244 rfl ?_
        exact V_lreturn rfl ⟨by unfold jnv ERR; simp; first | (rw [if_pos (by assumption)]) | (rw [if_neg (by assumption)]), rfl, rfl, rfl⟩ dX1_join_250
end JOIN

