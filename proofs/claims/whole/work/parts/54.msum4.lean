def leafF (f : IT) : Bool × IT :=
  if sgnB 40 f = true then (if f 104 60 = 8 then (false, wrg 2 f) else (true, tkF (u2 (wtsF 0 (u2 f 104 60 (f 104 60 + 1))) 104 63 1)))
  else if keyB 20 f = true ∧ f 104 63 = 1 then thn (ctdF f) fun f1 => (true, tkF (wtsF 2 f1))
  else if nmtV f < 0 ∧ f 104 8 ≠ 3 then (false, wrg 1 f)
  else if nmtV f < 0 ∧ 9999 < f 104 9 then (false, wrg 2 f)
  else thn (ctdF f) fun f1 => (true, tkF (u2 (grwF (if nmtV f < 0 then 0 else 1) (if nmtV f < 0 then f1 104 9 else nmtV f) 0 f1) 104 62 0))
theorem ctdF_f {f : IT} (h : (ctdF f).1 = false) : (ctdF f).2 = wrg 2 f := by
  unfold ctdF at *
  split at h
  · rename_i e; rw [if_pos e]
  · cases h
theorem ctdF_t {f : IT} (h : (ctdF f).1 = true) : (ctdF f).2 = u2 f 104 61 (f 104 61 + 1) := by
  unfold ctdF at *
  split at h
  · cases h
  · rename_i e; rw [if_neg e]
theorem PK.ct {f : IT} (h : PK f) : PK (ctdF f).2 := by
  unfold ctdF
  split
  · exact (h.up (by omega) (by omega) (by omega)).up (by omega) (by omega) (by omega)
  · exact h.up (by omega) (by omega) (by omega)
theorem PK.wts {f : IT} (h : PK f) {k : Int} : PK (wtsF k f) := (h.up (by omega) (by omega) (by omega)).up (by omega) (by omega) (by omega)
theorem PK.grw {f : IT} (h : PK f) {k a b : Int} : PK (grwF k a b f) := (((((h.up (by omega) (by omega) (by omega)).up (by omega) (by omega) (by omega)).up (by omega) (by omega) (by omega)).up (by omega) (by omega) (by omega)).up (by omega) (by omega) (by omega)).up (by omega) (by omega) (by omega)
theorem nmtV_rng {f : IT} (h : PK f) : -1 ≤ nmtV f ∧ nmtV f ≤ 7 := by
  obtain ⟨-, k1, k2, k3, -⟩ := h
  unfold nmtV
  split
  · have := k3 (by omega); omega
  · omega
theorem w_leaf86 {ρ : RT} {f : IT} {g : JT} (hρ : Fx ρ) (hK : PK f) {lo : Nat} (H : SJ lo 0 0 f) {R : Bool × IT} (hR : R = if nmtV f < 0 ∧ f 104 8 ≠ 3 then (false, wrg 1 f) else if nmtV f < 0 ∧ 9999 < f 104 9 then (false, wrg 2 f) else thn (ctdF f) fun f1 => (true, tkF (u2 (grwF (if nmtV f < 0 then 0 else 1) (if nmtV f < 0 then f1 104 9 else nmtV f) 0 f1) 104 62 0))) :
    V_X12_leafRead (fun r ρ' f' g' => r = some (.int (iz (bz R.1))) ∧ ρ' = ρ ∧ f' = R.2 ∧ g' = g) 86 [.ref 104, .null] [] ρ f g := by
  have h8 := hK.r8
  have hr := H.rng (by omega)
  have hn := nmtV_rng hK
  refine V_al0n dX12_leafRead_86 ?_
  refine V_callV (as := []) ml_X12_371 im_X12_nameMet se_X12_nameMet kk104 (by decide) (by decide) dX12_leafRead_87 rfl rfl (by decide) (by decide) (Nat.le_of_ble_eq_true rfl) (by decide) (by decide) rfl (c_nameMet hK) ?_
  refine pq4 ?_
  refine V_is1n dX12_leafRead_90 (by decide) rfl ?_
  refine V_il1n dX12_leafRead_91 ?_
  refine V_if_ge (tgt := 109) dX12_leafRead_92 rfl (by unfold ri; omega) (fun b92 => ?_) (fun b92 => ?_)
  · refine V_il1n dX12_leafRead_109 ?_
    refine V_if_ge (tgt := 129) dX12_leafRead_110 rfl (by unfold ri; omega) (fun b110 => ?_) (fun b110 => ?_)
    · refine V_al0n dX12_leafRead_129 ?_
      refine V_callV (as := []) ml_X12_368 im_X12_isCounted se_X12_isCounted kk104 (by decide) (by decide) dX12_leafRead_130 rfl rfl (by decide) (by decide) (Nat.le_of_ble_eq_true rfl) (by decide) (by decide) rfl (c_isCounted (by unfold ri; have := H.2.2.1; omega)) ?_
      refine pq4 ?_
      refine V_bf (tgt := 138) dX12_leafRead_133 rfl (fun b133 => ?_) (fun b133 => ?_)
      · refine V_al0n dX12_leafRead_138 ?_
        refine V_il1n dX12_leafRead_139 ?_
        refine V_if_lt (tgt := 147) dX12_leafRead_140 rfl (by unfold ri; omega) (fun b140 => ?_) (fun b140 => ?_)
        · refine V_iconst dX12_leafRead_147 ?_
          refine V_il1n dX12_leafRead_148 ?_
          refine V_if_lt (tgt := 156) dX12_leafRead_149 rfl (by unfold ri; omega) (fun b149 => ?_) (fun b149 => ?_)
          · refine V_al0n dX12_leafRead_156 ?_
            refine V_getI kk104 (by decide) fl_X12_183 rfl dX12_leafRead_157 ?_
            refine V_iconst dX12_leafRead_160 ?_
            refine V_callV (as := [_, _, _]) ml_X12_354 im_X12_grown se_X12_grown kk104 (by decide) (by decide) dX12_leafRead_161 rfl rfl (by decide) (by decide) (Nat.le_of_ble_eq_true rfl) (by decide) (by decide) rfl (c_grown hρ (by rw [ctdF_t b133, u2_o (by omega)]; have := (H.ct b133).rng (by omega); rw [ctdF_t b133, u2_o (by omega)] at this; omega) (by rw [ctdF_t b133, u2_o (by omega)]; omega)) ?_
            refine pq4 ?_
            refine V_al0n dX12_leafRead_164 ?_
            refine V_iconst dX12_leafRead_165 ?_
            refine V_putZ kk104 (by decide) fl_X12_374 rfl (by first | exact Or.inl rfl | exact Or.inr rfl | (unfold bz; split <;> simp)) dX12_leafRead_166 ?_
            refine V_al0n dX12_leafRead_169 ?_
            refine V_callV (as := []) ml_X12_206 im_X12_token se_X12_token kk104 (by decide) (by decide) dX12_leafRead_170 rfl rfl (by decide) (by decide) (Nat.le_of_ble_eq_true rfl) (by decide) (by decide) rfl (c_tok hρ (hK.ct.grw.up (by omega) (by omega) (by omega))) ?_
            refine pq4 ?_
            refine V_iconst dX12_leafRead_173 ?_
            exact V_zreturn rfl (by first | exact Or.inl rfl | exact Or.inr rfl | (unfold bz; split <;> simp)) (by first | (exfalso; omega) | rw [hR, if_neg (by omega), if_neg (by omega), thn_t b133]; first | (rw [if_pos (by omega), if_pos (by omega)]; exact ⟨rfl, rfl, rfl, rfl⟩) | (rw [if_neg (by omega), if_neg (by omega)]; exact ⟨rfl, rfl, rfl, rfl⟩)) dX12_leafRead_174
          · refine V_il1n dX12_leafRead_152 ?_
            refine V_goto (tgt := 160) dX12_leafRead_153 rfl ?_
            refine V_iconst dX12_leafRead_160 ?_
            refine V_callV (as := [_, _, _]) ml_X12_354 im_X12_grown se_X12_grown kk104 (by decide) (by decide) dX12_leafRead_161 rfl rfl (by decide) (by decide) (Nat.le_of_ble_eq_true rfl) (by decide) (by decide) rfl (c_grown hρ (by rw [ctdF_t b133, u2_o (by omega)]; have := (H.ct b133).rng (by omega); rw [ctdF_t b133, u2_o (by omega)] at this; omega) (by rw [ctdF_t b133, u2_o (by omega)]; omega)) ?_
            refine pq4 ?_
            refine V_al0n dX12_leafRead_164 ?_
            refine V_iconst dX12_leafRead_165 ?_
            refine V_putZ kk104 (by decide) fl_X12_374 rfl (by first | exact Or.inl rfl | exact Or.inr rfl | (unfold bz; split <;> simp)) dX12_leafRead_166 ?_
            refine V_al0n dX12_leafRead_169 ?_
            refine V_callV (as := []) ml_X12_206 im_X12_token se_X12_token kk104 (by decide) (by decide) dX12_leafRead_170 rfl rfl (by decide) (by decide) (Nat.le_of_ble_eq_true rfl) (by decide) (by decide) rfl (c_tok hρ (hK.ct.grw.up (by omega) (by omega) (by omega))) ?_
            refine pq4 ?_
            refine V_iconst dX12_leafRead_173 ?_
            exact V_zreturn rfl (by first | exact Or.inl rfl | exact Or.inr rfl | (unfold bz; split <;> simp)) (by first | (exfalso; omega) | rw [hR, if_neg (by omega), if_neg (by omega), thn_t b133]; first | (rw [if_pos (by omega), if_pos (by omega)]; exact ⟨rfl, rfl, rfl, rfl⟩) | (rw [if_neg (by omega), if_neg (by omega)]; exact ⟨rfl, rfl, rfl, rfl⟩)) dX12_leafRead_174
        · refine V_iconst dX12_leafRead_143 ?_
          refine V_goto (tgt := 148) dX12_leafRead_144 rfl ?_
          refine V_il1n dX12_leafRead_148 ?_
          refine V_if_lt (tgt := 156) dX12_leafRead_149 rfl (by unfold ri; omega) (fun b149 => ?_) (fun b149 => ?_)
          · refine V_al0n dX12_leafRead_156 ?_
            refine V_getI kk104 (by decide) fl_X12_183 rfl dX12_leafRead_157 ?_
            refine V_iconst dX12_leafRead_160 ?_
            refine V_callV (as := [_, _, _]) ml_X12_354 im_X12_grown se_X12_grown kk104 (by decide) (by decide) dX12_leafRead_161 rfl rfl (by decide) (by decide) (Nat.le_of_ble_eq_true rfl) (by decide) (by decide) rfl (c_grown hρ (by rw [ctdF_t b133, u2_o (by omega)]; have := (H.ct b133).rng (by omega); rw [ctdF_t b133, u2_o (by omega)] at this; omega) (by rw [ctdF_t b133, u2_o (by omega)]; omega)) ?_
            refine pq4 ?_
            refine V_al0n dX12_leafRead_164 ?_
            refine V_iconst dX12_leafRead_165 ?_
            refine V_putZ kk104 (by decide) fl_X12_374 rfl (by first | exact Or.inl rfl | exact Or.inr rfl | (unfold bz; split <;> simp)) dX12_leafRead_166 ?_
            refine V_al0n dX12_leafRead_169 ?_
            refine V_callV (as := []) ml_X12_206 im_X12_token se_X12_token kk104 (by decide) (by decide) dX12_leafRead_170 rfl rfl (by decide) (by decide) (Nat.le_of_ble_eq_true rfl) (by decide) (by decide) rfl (c_tok hρ (hK.ct.grw.up (by omega) (by omega) (by omega))) ?_
            refine pq4 ?_
            refine V_iconst dX12_leafRead_173 ?_
            exact V_zreturn rfl (by first | exact Or.inl rfl | exact Or.inr rfl | (unfold bz; split <;> simp)) (by first | (exfalso; omega) | rw [hR, if_neg (by omega), if_neg (by omega), thn_t b133]; first | (rw [if_pos (by omega), if_pos (by omega)]; exact ⟨rfl, rfl, rfl, rfl⟩) | (rw [if_neg (by omega), if_neg (by omega)]; exact ⟨rfl, rfl, rfl, rfl⟩)) dX12_leafRead_174
          · refine V_il1n dX12_leafRead_152 ?_
            refine V_goto (tgt := 160) dX12_leafRead_153 rfl ?_
            refine V_iconst dX12_leafRead_160 ?_
            refine V_callV (as := [_, _, _]) ml_X12_354 im_X12_grown se_X12_grown kk104 (by decide) (by decide) dX12_leafRead_161 rfl rfl (by decide) (by decide) (Nat.le_of_ble_eq_true rfl) (by decide) (by decide) rfl (c_grown hρ (by rw [ctdF_t b133, u2_o (by omega)]; have := (H.ct b133).rng (by omega); rw [ctdF_t b133, u2_o (by omega)] at this; omega) (by rw [ctdF_t b133, u2_o (by omega)]; omega)) ?_
            refine pq4 ?_
            refine V_al0n dX12_leafRead_164 ?_
            refine V_iconst dX12_leafRead_165 ?_
            refine V_putZ kk104 (by decide) fl_X12_374 rfl (by first | exact Or.inl rfl | exact Or.inr rfl | (unfold bz; split <;> simp)) dX12_leafRead_166 ?_
            refine V_al0n dX12_leafRead_169 ?_
            refine V_callV (as := []) ml_X12_206 im_X12_token se_X12_token kk104 (by decide) (by decide) dX12_leafRead_170 rfl rfl (by decide) (by decide) (Nat.le_of_ble_eq_true rfl) (by decide) (by decide) rfl (c_tok hρ (hK.ct.grw.up (by omega) (by omega) (by omega))) ?_
            refine pq4 ?_
            refine V_iconst dX12_leafRead_173 ?_
            exact V_zreturn rfl (by first | exact Or.inl rfl | exact Or.inr rfl | (unfold bz; split <;> simp)) (by first | (exfalso; omega) | rw [hR, if_neg (by omega), if_neg (by omega), thn_t b133]; first | (rw [if_pos (by omega), if_pos (by omega)]; exact ⟨rfl, rfl, rfl, rfl⟩) | (rw [if_neg (by omega), if_neg (by omega)]; exact ⟨rfl, rfl, rfl, rfl⟩)) dX12_leafRead_174
      · refine V_iconst dX12_leafRead_136 ?_
        exact V_zreturn rfl (by first | exact Or.inl rfl | exact Or.inr rfl | (unfold bz; split <;> simp)) (by rw [hR, if_neg (by omega), if_neg (by omega), thn_f b133]; exact ⟨rfl, rfl, rfl, rfl⟩) dX12_leafRead_137
    · refine V_al0n dX12_leafRead_113 ?_
      refine V_getI kk104 (by decide) fl_X12_183 rfl dX12_leafRead_114 ?_
      refine V_sipush dX12_leafRead_117 rfl ?_
      refine V_icmp_le (tgt := 129) dX12_leafRead_120 rfl (by first | exact h8.2 | (unfold ri; omega)) (by first | exact h8.2 | (unfold ri; omega)) (fun b120 => ?_) (fun b120 => ?_)
      · refine V_al0n dX12_leafRead_129 ?_
        refine V_callV (as := []) ml_X12_368 im_X12_isCounted se_X12_isCounted kk104 (by decide) (by decide) dX12_leafRead_130 rfl rfl (by decide) (by decide) (Nat.le_of_ble_eq_true rfl) (by decide) (by decide) rfl (c_isCounted (by unfold ri; have := H.2.2.1; omega)) ?_
        refine pq4 ?_
        refine V_bf (tgt := 138) dX12_leafRead_133 rfl (fun b133 => ?_) (fun b133 => ?_)
        · refine V_al0n dX12_leafRead_138 ?_
          refine V_il1n dX12_leafRead_139 ?_
          refine V_if_lt (tgt := 147) dX12_leafRead_140 rfl (by unfold ri; omega) (fun b140 => ?_) (fun b140 => ?_)
          · refine V_iconst dX12_leafRead_147 ?_
            refine V_il1n dX12_leafRead_148 ?_
            refine V_if_lt (tgt := 156) dX12_leafRead_149 rfl (by unfold ri; omega) (fun b149 => ?_) (fun b149 => ?_)
            · refine V_al0n dX12_leafRead_156 ?_
              refine V_getI kk104 (by decide) fl_X12_183 rfl dX12_leafRead_157 ?_
              refine V_iconst dX12_leafRead_160 ?_
              refine V_callV (as := [_, _, _]) ml_X12_354 im_X12_grown se_X12_grown kk104 (by decide) (by decide) dX12_leafRead_161 rfl rfl (by decide) (by decide) (Nat.le_of_ble_eq_true rfl) (by decide) (by decide) rfl (c_grown hρ (by rw [ctdF_t b133, u2_o (by omega)]; have := (H.ct b133).rng (by omega); rw [ctdF_t b133, u2_o (by omega)] at this; omega) (by rw [ctdF_t b133, u2_o (by omega)]; omega)) ?_
              refine pq4 ?_
              refine V_al0n dX12_leafRead_164 ?_
              refine V_iconst dX12_leafRead_165 ?_
              refine V_putZ kk104 (by decide) fl_X12_374 rfl (by first | exact Or.inl rfl | exact Or.inr rfl | (unfold bz; split <;> simp)) dX12_leafRead_166 ?_
              refine V_al0n dX12_leafRead_169 ?_
              refine V_callV (as := []) ml_X12_206 im_X12_token se_X12_token kk104 (by decide) (by decide) dX12_leafRead_170 rfl rfl (by decide) (by decide) (Nat.le_of_ble_eq_true rfl) (by decide) (by decide) rfl (c_tok hρ (hK.ct.grw.up (by omega) (by omega) (by omega))) ?_
              refine pq4 ?_
              refine V_iconst dX12_leafRead_173 ?_
              exact V_zreturn rfl (by first | exact Or.inl rfl | exact Or.inr rfl | (unfold bz; split <;> simp)) (by first | (exfalso; omega) | rw [hR, if_neg (by omega), if_neg (by omega), thn_t b133]; first | (rw [if_pos (by omega), if_pos (by omega)]; exact ⟨rfl, rfl, rfl, rfl⟩) | (rw [if_neg (by omega), if_neg (by omega)]; exact ⟨rfl, rfl, rfl, rfl⟩)) dX12_leafRead_174
            · refine V_il1n dX12_leafRead_152 ?_
              refine V_goto (tgt := 160) dX12_leafRead_153 rfl ?_
              refine V_iconst dX12_leafRead_160 ?_
              refine V_callV (as := [_, _, _]) ml_X12_354 im_X12_grown se_X12_grown kk104 (by decide) (by decide) dX12_leafRead_161 rfl rfl (by decide) (by decide) (Nat.le_of_ble_eq_true rfl) (by decide) (by decide) rfl (c_grown hρ (by rw [ctdF_t b133, u2_o (by omega)]; have := (H.ct b133).rng (by omega); rw [ctdF_t b133, u2_o (by omega)] at this; omega) (by rw [ctdF_t b133, u2_o (by omega)]; omega)) ?_
              refine pq4 ?_
              refine V_al0n dX12_leafRead_164 ?_
              refine V_iconst dX12_leafRead_165 ?_
              refine V_putZ kk104 (by decide) fl_X12_374 rfl (by first | exact Or.inl rfl | exact Or.inr rfl | (unfold bz; split <;> simp)) dX12_leafRead_166 ?_
              refine V_al0n dX12_leafRead_169 ?_
              refine V_callV (as := []) ml_X12_206 im_X12_token se_X12_token kk104 (by decide) (by decide) dX12_leafRead_170 rfl rfl (by decide) (by decide) (Nat.le_of_ble_eq_true rfl) (by decide) (by decide) rfl (c_tok hρ (hK.ct.grw.up (by omega) (by omega) (by omega))) ?_
              refine pq4 ?_
              refine V_iconst dX12_leafRead_173 ?_
              exact V_zreturn rfl (by first | exact Or.inl rfl | exact Or.inr rfl | (unfold bz; split <;> simp)) (by first | (exfalso; omega) | rw [hR, if_neg (by omega), if_neg (by omega), thn_t b133]; first | (rw [if_pos (by omega), if_pos (by omega)]; exact ⟨rfl, rfl, rfl, rfl⟩) | (rw [if_neg (by omega), if_neg (by omega)]; exact ⟨rfl, rfl, rfl, rfl⟩)) dX12_leafRead_174
          · refine V_iconst dX12_leafRead_143 ?_
            refine V_goto (tgt := 148) dX12_leafRead_144 rfl ?_
            refine V_il1n dX12_leafRead_148 ?_
            refine V_if_lt (tgt := 156) dX12_leafRead_149 rfl (by unfold ri; omega) (fun b149 => ?_) (fun b149 => ?_)
            · refine V_al0n dX12_leafRead_156 ?_
              refine V_getI kk104 (by decide) fl_X12_183 rfl dX12_leafRead_157 ?_
              refine V_iconst dX12_leafRead_160 ?_
              refine V_callV (as := [_, _, _]) ml_X12_354 im_X12_grown se_X12_grown kk104 (by decide) (by decide) dX12_leafRead_161 rfl rfl (by decide) (by decide) (Nat.le_of_ble_eq_true rfl) (by decide) (by decide) rfl (c_grown hρ (by rw [ctdF_t b133, u2_o (by omega)]; have := (H.ct b133).rng (by omega); rw [ctdF_t b133, u2_o (by omega)] at this; omega) (by rw [ctdF_t b133, u2_o (by omega)]; omega)) ?_
              refine pq4 ?_
              refine V_al0n dX12_leafRead_164 ?_
              refine V_iconst dX12_leafRead_165 ?_
              refine V_putZ kk104 (by decide) fl_X12_374 rfl (by first | exact Or.inl rfl | exact Or.inr rfl | (unfold bz; split <;> simp)) dX12_leafRead_166 ?_
              refine V_al0n dX12_leafRead_169 ?_
              refine V_callV (as := []) ml_X12_206 im_X12_token se_X12_token kk104 (by decide) (by decide) dX12_leafRead_170 rfl rfl (by decide) (by decide) (Nat.le_of_ble_eq_true rfl) (by decide) (by decide) rfl (c_tok hρ (hK.ct.grw.up (by omega) (by omega) (by omega))) ?_
              refine pq4 ?_
              refine V_iconst dX12_leafRead_173 ?_
              exact V_zreturn rfl (by first | exact Or.inl rfl | exact Or.inr rfl | (unfold bz; split <;> simp)) (by first | (exfalso; omega) | rw [hR, if_neg (by omega), if_neg (by omega), thn_t b133]; first | (rw [if_pos (by omega), if_pos (by omega)]; exact ⟨rfl, rfl, rfl, rfl⟩) | (rw [if_neg (by omega), if_neg (by omega)]; exact ⟨rfl, rfl, rfl, rfl⟩)) dX12_leafRead_174
            · refine V_il1n dX12_leafRead_152 ?_
              refine V_goto (tgt := 160) dX12_leafRead_153 rfl ?_
              refine V_iconst dX12_leafRead_160 ?_
              refine V_callV (as := [_, _, _]) ml_X12_354 im_X12_grown se_X12_grown kk104 (by decide) (by decide) dX12_leafRead_161 rfl rfl (by decide) (by decide) (Nat.le_of_ble_eq_true rfl) (by decide) (by decide) rfl (c_grown hρ (by rw [ctdF_t b133, u2_o (by omega)]; have := (H.ct b133).rng (by omega); rw [ctdF_t b133, u2_o (by omega)] at this; omega) (by rw [ctdF_t b133, u2_o (by omega)]; omega)) ?_
              refine pq4 ?_
              refine V_al0n dX12_leafRead_164 ?_
              refine V_iconst dX12_leafRead_165 ?_
              refine V_putZ kk104 (by decide) fl_X12_374 rfl (by first | exact Or.inl rfl | exact Or.inr rfl | (unfold bz; split <;> simp)) dX12_leafRead_166 ?_
              refine V_al0n dX12_leafRead_169 ?_
              refine V_callV (as := []) ml_X12_206 im_X12_token se_X12_token kk104 (by decide) (by decide) dX12_leafRead_170 rfl rfl (by decide) (by decide) (Nat.le_of_ble_eq_true rfl) (by decide) (by decide) rfl (c_tok hρ (hK.ct.grw.up (by omega) (by omega) (by omega))) ?_
              refine pq4 ?_
              refine V_iconst dX12_leafRead_173 ?_
              exact V_zreturn rfl (by first | exact Or.inl rfl | exact Or.inr rfl | (unfold bz; split <;> simp)) (by first | (exfalso; omega) | rw [hR, if_neg (by omega), if_neg (by omega), thn_t b133]; first | (rw [if_pos (by omega), if_pos (by omega)]; exact ⟨rfl, rfl, rfl, rfl⟩) | (rw [if_neg (by omega), if_neg (by omega)]; exact ⟨rfl, rfl, rfl, rfl⟩)) dX12_leafRead_174
        · refine V_iconst dX12_leafRead_136 ?_
          exact V_zreturn rfl (by first | exact Or.inl rfl | exact Or.inr rfl | (unfold bz; split <;> simp)) (by rw [hR, if_neg (by omega), if_neg (by omega), thn_f b133]; exact ⟨rfl, rfl, rfl, rfl⟩) dX12_leafRead_137
      · refine V_al0n dX12_leafRead_123 ?_
        refine V_iconst dX12_leafRead_124 ?_
        refine V_callV (as := [_]) ml_X12_196 im_X12_wrong se_X12_wrong kk104 (by decide) (by decide) dX12_leafRead_125 rfl rfl (by decide) (by decide) (Nat.le_of_ble_eq_true rfl) (by decide) (by decide) rfl (c_wrong) ?_
        refine pq4 ?_
        exact V_zreturn rfl (by first | exact Or.inl rfl | exact Or.inr rfl | (unfold bz; split <;> simp)) (by first | (exfalso; omega) | rw [hR, if_neg (by omega), if_pos (by omega)]; exact ⟨rfl, rfl, rfl, rfl⟩) dX12_leafRead_128
  · refine V_al0n dX12_leafRead_95 ?_
    refine V_getI kk104 (by decide) fl_X12_172 rfl dX12_leafRead_96 ?_
    refine V_iconst dX12_leafRead_99 ?_
    refine V_icmp_eq (tgt := 109) dX12_leafRead_100 rfl (by first | exact h8.1 | (unfold ri; omega)) (by first | exact h8.1 | (unfold ri; omega)) (fun b100 => ?_) (fun b100 => ?_)
    · refine V_il1n dX12_leafRead_109 ?_
      refine V_if_ge (tgt := 129) dX12_leafRead_110 rfl (by unfold ri; omega) (fun b110 => ?_) (fun b110 => ?_)
      · refine V_al0n dX12_leafRead_129 ?_
        refine V_callV (as := []) ml_X12_368 im_X12_isCounted se_X12_isCounted kk104 (by decide) (by decide) dX12_leafRead_130 rfl rfl (by decide) (by decide) (Nat.le_of_ble_eq_true rfl) (by decide) (by decide) rfl (c_isCounted (by unfold ri; have := H.2.2.1; omega)) ?_
        refine pq4 ?_
        refine V_bf (tgt := 138) dX12_leafRead_133 rfl (fun b133 => ?_) (fun b133 => ?_)
        · refine V_al0n dX12_leafRead_138 ?_
          refine V_il1n dX12_leafRead_139 ?_
          refine V_if_lt (tgt := 147) dX12_leafRead_140 rfl (by unfold ri; omega) (fun b140 => ?_) (fun b140 => ?_)
          · refine V_iconst dX12_leafRead_147 ?_
            refine V_il1n dX12_leafRead_148 ?_
            refine V_if_lt (tgt := 156) dX12_leafRead_149 rfl (by unfold ri; omega) (fun b149 => ?_) (fun b149 => ?_)
            · refine V_al0n dX12_leafRead_156 ?_
              refine V_getI kk104 (by decide) fl_X12_183 rfl dX12_leafRead_157 ?_
              refine V_iconst dX12_leafRead_160 ?_
              refine V_callV (as := [_, _, _]) ml_X12_354 im_X12_grown se_X12_grown kk104 (by decide) (by decide) dX12_leafRead_161 rfl rfl (by decide) (by decide) (Nat.le_of_ble_eq_true rfl) (by decide) (by decide) rfl (c_grown hρ (by rw [ctdF_t b133, u2_o (by omega)]; have := (H.ct b133).rng (by omega); rw [ctdF_t b133, u2_o (by omega)] at this; omega) (by rw [ctdF_t b133, u2_o (by omega)]; omega)) ?_
              refine pq4 ?_
              refine V_al0n dX12_leafRead_164 ?_
              refine V_iconst dX12_leafRead_165 ?_
              refine V_putZ kk104 (by decide) fl_X12_374 rfl (by first | exact Or.inl rfl | exact Or.inr rfl | (unfold bz; split <;> simp)) dX12_leafRead_166 ?_
              refine V_al0n dX12_leafRead_169 ?_
              refine V_callV (as := []) ml_X12_206 im_X12_token se_X12_token kk104 (by decide) (by decide) dX12_leafRead_170 rfl rfl (by decide) (by decide) (Nat.le_of_ble_eq_true rfl) (by decide) (by decide) rfl (c_tok hρ (hK.ct.grw.up (by omega) (by omega) (by omega))) ?_
              refine pq4 ?_
              refine V_iconst dX12_leafRead_173 ?_
              exact V_zreturn rfl (by first | exact Or.inl rfl | exact Or.inr rfl | (unfold bz; split <;> simp)) (by first | (exfalso; omega) | rw [hR, if_neg (by omega), if_neg (by omega), thn_t b133]; first | (rw [if_pos (by omega), if_pos (by omega)]; exact ⟨rfl, rfl, rfl, rfl⟩) | (rw [if_neg (by omega), if_neg (by omega)]; exact ⟨rfl, rfl, rfl, rfl⟩)) dX12_leafRead_174
            · refine V_il1n dX12_leafRead_152 ?_
              refine V_goto (tgt := 160) dX12_leafRead_153 rfl ?_
              refine V_iconst dX12_leafRead_160 ?_
              refine V_callV (as := [_, _, _]) ml_X12_354 im_X12_grown se_X12_grown kk104 (by decide) (by decide) dX12_leafRead_161 rfl rfl (by decide) (by decide) (Nat.le_of_ble_eq_true rfl) (by decide) (by decide) rfl (c_grown hρ (by rw [ctdF_t b133, u2_o (by omega)]; have := (H.ct b133).rng (by omega); rw [ctdF_t b133, u2_o (by omega)] at this; omega) (by rw [ctdF_t b133, u2_o (by omega)]; omega)) ?_
              refine pq4 ?_
              refine V_al0n dX12_leafRead_164 ?_
              refine V_iconst dX12_leafRead_165 ?_
              refine V_putZ kk104 (by decide) fl_X12_374 rfl (by first | exact Or.inl rfl | exact Or.inr rfl | (unfold bz; split <;> simp)) dX12_leafRead_166 ?_
              refine V_al0n dX12_leafRead_169 ?_
              refine V_callV (as := []) ml_X12_206 im_X12_token se_X12_token kk104 (by decide) (by decide) dX12_leafRead_170 rfl rfl (by decide) (by decide) (Nat.le_of_ble_eq_true rfl) (by decide) (by decide) rfl (c_tok hρ (hK.ct.grw.up (by omega) (by omega) (by omega))) ?_
              refine pq4 ?_
              refine V_iconst dX12_leafRead_173 ?_
              exact V_zreturn rfl (by first | exact Or.inl rfl | exact Or.inr rfl | (unfold bz; split <;> simp)) (by first | (exfalso; omega) | rw [hR, if_neg (by omega), if_neg (by omega), thn_t b133]; first | (rw [if_pos (by omega), if_pos (by omega)]; exact ⟨rfl, rfl, rfl, rfl⟩) | (rw [if_neg (by omega), if_neg (by omega)]; exact ⟨rfl, rfl, rfl, rfl⟩)) dX12_leafRead_174
          · refine V_iconst dX12_leafRead_143 ?_
            refine V_goto (tgt := 148) dX12_leafRead_144 rfl ?_
            refine V_il1n dX12_leafRead_148 ?_
            refine V_if_lt (tgt := 156) dX12_leafRead_149 rfl (by unfold ri; omega) (fun b149 => ?_) (fun b149 => ?_)
            · refine V_al0n dX12_leafRead_156 ?_
              refine V_getI kk104 (by decide) fl_X12_183 rfl dX12_leafRead_157 ?_
              refine V_iconst dX12_leafRead_160 ?_
              refine V_callV (as := [_, _, _]) ml_X12_354 im_X12_grown se_X12_grown kk104 (by decide) (by decide) dX12_leafRead_161 rfl rfl (by decide) (by decide) (Nat.le_of_ble_eq_true rfl) (by decide) (by decide) rfl (c_grown hρ (by rw [ctdF_t b133, u2_o (by omega)]; have := (H.ct b133).rng (by omega); rw [ctdF_t b133, u2_o (by omega)] at this; omega) (by rw [ctdF_t b133, u2_o (by omega)]; omega)) ?_
              refine pq4 ?_
              refine V_al0n dX12_leafRead_164 ?_
              refine V_iconst dX12_leafRead_165 ?_
              refine V_putZ kk104 (by decide) fl_X12_374 rfl (by first | exact Or.inl rfl | exact Or.inr rfl | (unfold bz; split <;> simp)) dX12_leafRead_166 ?_
              refine V_al0n dX12_leafRead_169 ?_
              refine V_callV (as := []) ml_X12_206 im_X12_token se_X12_token kk104 (by decide) (by decide) dX12_leafRead_170 rfl rfl (by decide) (by decide) (Nat.le_of_ble_eq_true rfl) (by decide) (by decide) rfl (c_tok hρ (hK.ct.grw.up (by omega) (by omega) (by omega))) ?_
              refine pq4 ?_
              refine V_iconst dX12_leafRead_173 ?_
              exact V_zreturn rfl (by first | exact Or.inl rfl | exact Or.inr rfl | (unfold bz; split <;> simp)) (by first | (exfalso; omega) | rw [hR, if_neg (by omega), if_neg (by omega), thn_t b133]; first | (rw [if_pos (by omega), if_pos (by omega)]; exact ⟨rfl, rfl, rfl, rfl⟩) | (rw [if_neg (by omega), if_neg (by omega)]; exact ⟨rfl, rfl, rfl, rfl⟩)) dX12_leafRead_174
            · refine V_il1n dX12_leafRead_152 ?_
              refine V_goto (tgt := 160) dX12_leafRead_153 rfl ?_
              refine V_iconst dX12_leafRead_160 ?_
              refine V_callV (as := [_, _, _]) ml_X12_354 im_X12_grown se_X12_grown kk104 (by decide) (by decide) dX12_leafRead_161 rfl rfl (by decide) (by decide) (Nat.le_of_ble_eq_true rfl) (by decide) (by decide) rfl (c_grown hρ (by rw [ctdF_t b133, u2_o (by omega)]; have := (H.ct b133).rng (by omega); rw [ctdF_t b133, u2_o (by omega)] at this; omega) (by rw [ctdF_t b133, u2_o (by omega)]; omega)) ?_
              refine pq4 ?_
              refine V_al0n dX12_leafRead_164 ?_
              refine V_iconst dX12_leafRead_165 ?_
              refine V_putZ kk104 (by decide) fl_X12_374 rfl (by first | exact Or.inl rfl | exact Or.inr rfl | (unfold bz; split <;> simp)) dX12_leafRead_166 ?_
              refine V_al0n dX12_leafRead_169 ?_
              refine V_callV (as := []) ml_X12_206 im_X12_token se_X12_token kk104 (by decide) (by decide) dX12_leafRead_170 rfl rfl (by decide) (by decide) (Nat.le_of_ble_eq_true rfl) (by decide) (by decide) rfl (c_tok hρ (hK.ct.grw.up (by omega) (by omega) (by omega))) ?_
              refine pq4 ?_
              refine V_iconst dX12_leafRead_173 ?_
              exact V_zreturn rfl (by first | exact Or.inl rfl | exact Or.inr rfl | (unfold bz; split <;> simp)) (by first | (exfalso; omega) | rw [hR, if_neg (by omega), if_neg (by omega), thn_t b133]; first | (rw [if_pos (by omega), if_pos (by omega)]; exact ⟨rfl, rfl, rfl, rfl⟩) | (rw [if_neg (by omega), if_neg (by omega)]; exact ⟨rfl, rfl, rfl, rfl⟩)) dX12_leafRead_174
        · refine V_iconst dX12_leafRead_136 ?_
          exact V_zreturn rfl (by first | exact Or.inl rfl | exact Or.inr rfl | (unfold bz; split <;> simp)) (by rw [hR, if_neg (by omega), if_neg (by omega), thn_f b133]; exact ⟨rfl, rfl, rfl, rfl⟩) dX12_leafRead_137
      · refine V_al0n dX12_leafRead_113 ?_
        refine V_getI kk104 (by decide) fl_X12_183 rfl dX12_leafRead_114 ?_
        refine V_sipush dX12_leafRead_117 rfl ?_
        refine V_icmp_le (tgt := 129) dX12_leafRead_120 rfl (by first | exact h8.2 | (unfold ri; omega)) (by first | exact h8.2 | (unfold ri; omega)) (fun b120 => ?_) (fun b120 => ?_)
        · refine V_al0n dX12_leafRead_129 ?_
          refine V_callV (as := []) ml_X12_368 im_X12_isCounted se_X12_isCounted kk104 (by decide) (by decide) dX12_leafRead_130 rfl rfl (by decide) (by decide) (Nat.le_of_ble_eq_true rfl) (by decide) (by decide) rfl (c_isCounted (by unfold ri; have := H.2.2.1; omega)) ?_
          refine pq4 ?_
          refine V_bf (tgt := 138) dX12_leafRead_133 rfl (fun b133 => ?_) (fun b133 => ?_)
          · refine V_al0n dX12_leafRead_138 ?_
            refine V_il1n dX12_leafRead_139 ?_
            refine V_if_lt (tgt := 147) dX12_leafRead_140 rfl (by unfold ri; omega) (fun b140 => ?_) (fun b140 => ?_)
            · refine V_iconst dX12_leafRead_147 ?_
              refine V_il1n dX12_leafRead_148 ?_
              refine V_if_lt (tgt := 156) dX12_leafRead_149 rfl (by unfold ri; omega) (fun b149 => ?_) (fun b149 => ?_)
              · refine V_al0n dX12_leafRead_156 ?_
                refine V_getI kk104 (by decide) fl_X12_183 rfl dX12_leafRead_157 ?_
                refine V_iconst dX12_leafRead_160 ?_
                refine V_callV (as := [_, _, _]) ml_X12_354 im_X12_grown se_X12_grown kk104 (by decide) (by decide) dX12_leafRead_161 rfl rfl (by decide) (by decide) (Nat.le_of_ble_eq_true rfl) (by decide) (by decide) rfl (c_grown hρ (by rw [ctdF_t b133, u2_o (by omega)]; have := (H.ct b133).rng (by omega); rw [ctdF_t b133, u2_o (by omega)] at this; omega) (by rw [ctdF_t b133, u2_o (by omega)]; omega)) ?_
                refine pq4 ?_
                refine V_al0n dX12_leafRead_164 ?_
                refine V_iconst dX12_leafRead_165 ?_
                refine V_putZ kk104 (by decide) fl_X12_374 rfl (by first | exact Or.inl rfl | exact Or.inr rfl | (unfold bz; split <;> simp)) dX12_leafRead_166 ?_
                refine V_al0n dX12_leafRead_169 ?_
                refine V_callV (as := []) ml_X12_206 im_X12_token se_X12_token kk104 (by decide) (by decide) dX12_leafRead_170 rfl rfl (by decide) (by decide) (Nat.le_of_ble_eq_true rfl) (by decide) (by decide) rfl (c_tok hρ (hK.ct.grw.up (by omega) (by omega) (by omega))) ?_
                refine pq4 ?_
                refine V_iconst dX12_leafRead_173 ?_
                exact V_zreturn rfl (by first | exact Or.inl rfl | exact Or.inr rfl | (unfold bz; split <;> simp)) (by first | (exfalso; omega) | rw [hR, if_neg (by omega), if_neg (by omega), thn_t b133]; first | (rw [if_pos (by omega), if_pos (by omega)]; exact ⟨rfl, rfl, rfl, rfl⟩) | (rw [if_neg (by omega), if_neg (by omega)]; exact ⟨rfl, rfl, rfl, rfl⟩)) dX12_leafRead_174
              · refine V_il1n dX12_leafRead_152 ?_
                refine V_goto (tgt := 160) dX12_leafRead_153 rfl ?_
                refine V_iconst dX12_leafRead_160 ?_
                refine V_callV (as := [_, _, _]) ml_X12_354 im_X12_grown se_X12_grown kk104 (by decide) (by decide) dX12_leafRead_161 rfl rfl (by decide) (by decide) (Nat.le_of_ble_eq_true rfl) (by decide) (by decide) rfl (c_grown hρ (by rw [ctdF_t b133, u2_o (by omega)]; have := (H.ct b133).rng (by omega); rw [ctdF_t b133, u2_o (by omega)] at this; omega) (by rw [ctdF_t b133, u2_o (by omega)]; omega)) ?_
                refine pq4 ?_
                refine V_al0n dX12_leafRead_164 ?_
                refine V_iconst dX12_leafRead_165 ?_
                refine V_putZ kk104 (by decide) fl_X12_374 rfl (by first | exact Or.inl rfl | exact Or.inr rfl | (unfold bz; split <;> simp)) dX12_leafRead_166 ?_
                refine V_al0n dX12_leafRead_169 ?_
                refine V_callV (as := []) ml_X12_206 im_X12_token se_X12_token kk104 (by decide) (by decide) dX12_leafRead_170 rfl rfl (by decide) (by decide) (Nat.le_of_ble_eq_true rfl) (by decide) (by decide) rfl (c_tok hρ (hK.ct.grw.up (by omega) (by omega) (by omega))) ?_
                refine pq4 ?_
                refine V_iconst dX12_leafRead_173 ?_
                exact V_zreturn rfl (by first | exact Or.inl rfl | exact Or.inr rfl | (unfold bz; split <;> simp)) (by first | (exfalso; omega) | rw [hR, if_neg (by omega), if_neg (by omega), thn_t b133]; first | (rw [if_pos (by omega), if_pos (by omega)]; exact ⟨rfl, rfl, rfl, rfl⟩) | (rw [if_neg (by omega), if_neg (by omega)]; exact ⟨rfl, rfl, rfl, rfl⟩)) dX12_leafRead_174
            · refine V_iconst dX12_leafRead_143 ?_
              refine V_goto (tgt := 148) dX12_leafRead_144 rfl ?_
              refine V_il1n dX12_leafRead_148 ?_
              refine V_if_lt (tgt := 156) dX12_leafRead_149 rfl (by unfold ri; omega) (fun b149 => ?_) (fun b149 => ?_)
              · refine V_al0n dX12_leafRead_156 ?_
                refine V_getI kk104 (by decide) fl_X12_183 rfl dX12_leafRead_157 ?_
                refine V_iconst dX12_leafRead_160 ?_
                refine V_callV (as := [_, _, _]) ml_X12_354 im_X12_grown se_X12_grown kk104 (by decide) (by decide) dX12_leafRead_161 rfl rfl (by decide) (by decide) (Nat.le_of_ble_eq_true rfl) (by decide) (by decide) rfl (c_grown hρ (by rw [ctdF_t b133, u2_o (by omega)]; have := (H.ct b133).rng (by omega); rw [ctdF_t b133, u2_o (by omega)] at this; omega) (by rw [ctdF_t b133, u2_o (by omega)]; omega)) ?_
                refine pq4 ?_
                refine V_al0n dX12_leafRead_164 ?_
                refine V_iconst dX12_leafRead_165 ?_
                refine V_putZ kk104 (by decide) fl_X12_374 rfl (by first | exact Or.inl rfl | exact Or.inr rfl | (unfold bz; split <;> simp)) dX12_leafRead_166 ?_
                refine V_al0n dX12_leafRead_169 ?_
                refine V_callV (as := []) ml_X12_206 im_X12_token se_X12_token kk104 (by decide) (by decide) dX12_leafRead_170 rfl rfl (by decide) (by decide) (Nat.le_of_ble_eq_true rfl) (by decide) (by decide) rfl (c_tok hρ (hK.ct.grw.up (by omega) (by omega) (by omega))) ?_
                refine pq4 ?_
                refine V_iconst dX12_leafRead_173 ?_
                exact V_zreturn rfl (by first | exact Or.inl rfl | exact Or.inr rfl | (unfold bz; split <;> simp)) (by first | (exfalso; omega) | rw [hR, if_neg (by omega), if_neg (by omega), thn_t b133]; first | (rw [if_pos (by omega), if_pos (by omega)]; exact ⟨rfl, rfl, rfl, rfl⟩) | (rw [if_neg (by omega), if_neg (by omega)]; exact ⟨rfl, rfl, rfl, rfl⟩)) dX12_leafRead_174
              · refine V_il1n dX12_leafRead_152 ?_
                refine V_goto (tgt := 160) dX12_leafRead_153 rfl ?_
                refine V_iconst dX12_leafRead_160 ?_
                refine V_callV (as := [_, _, _]) ml_X12_354 im_X12_grown se_X12_grown kk104 (by decide) (by decide) dX12_leafRead_161 rfl rfl (by decide) (by decide) (Nat.le_of_ble_eq_true rfl) (by decide) (by decide) rfl (c_grown hρ (by rw [ctdF_t b133, u2_o (by omega)]; have := (H.ct b133).rng (by omega); rw [ctdF_t b133, u2_o (by omega)] at this; omega) (by rw [ctdF_t b133, u2_o (by omega)]; omega)) ?_
                refine pq4 ?_
                refine V_al0n dX12_leafRead_164 ?_
                refine V_iconst dX12_leafRead_165 ?_
                refine V_putZ kk104 (by decide) fl_X12_374 rfl (by first | exact Or.inl rfl | exact Or.inr rfl | (unfold bz; split <;> simp)) dX12_leafRead_166 ?_
                refine V_al0n dX12_leafRead_169 ?_
                refine V_callV (as := []) ml_X12_206 im_X12_token se_X12_token kk104 (by decide) (by decide) dX12_leafRead_170 rfl rfl (by decide) (by decide) (Nat.le_of_ble_eq_true rfl) (by decide) (by decide) rfl (c_tok hρ (hK.ct.grw.up (by omega) (by omega) (by omega))) ?_
                refine pq4 ?_
                refine V_iconst dX12_leafRead_173 ?_
                exact V_zreturn rfl (by first | exact Or.inl rfl | exact Or.inr rfl | (unfold bz; split <;> simp)) (by first | (exfalso; omega) | rw [hR, if_neg (by omega), if_neg (by omega), thn_t b133]; first | (rw [if_pos (by omega), if_pos (by omega)]; exact ⟨rfl, rfl, rfl, rfl⟩) | (rw [if_neg (by omega), if_neg (by omega)]; exact ⟨rfl, rfl, rfl, rfl⟩)) dX12_leafRead_174
          · refine V_iconst dX12_leafRead_136 ?_
            exact V_zreturn rfl (by first | exact Or.inl rfl | exact Or.inr rfl | (unfold bz; split <;> simp)) (by rw [hR, if_neg (by omega), if_neg (by omega), thn_f b133]; exact ⟨rfl, rfl, rfl, rfl⟩) dX12_leafRead_137
        · refine V_al0n dX12_leafRead_123 ?_
          refine V_iconst dX12_leafRead_124 ?_
          refine V_callV (as := [_]) ml_X12_196 im_X12_wrong se_X12_wrong kk104 (by decide) (by decide) dX12_leafRead_125 rfl rfl (by decide) (by decide) (Nat.le_of_ble_eq_true rfl) (by decide) (by decide) rfl (c_wrong) ?_
          refine pq4 ?_
          exact V_zreturn rfl (by first | exact Or.inl rfl | exact Or.inr rfl | (unfold bz; split <;> simp)) (by first | (exfalso; omega) | rw [hR, if_neg (by omega), if_pos (by omega)]; exact ⟨rfl, rfl, rfl, rfl⟩) dX12_leafRead_128
    · refine V_al0n dX12_leafRead_103 ?_
      refine V_iconst dX12_leafRead_104 ?_
      refine V_callV (as := [_]) ml_X12_196 im_X12_wrong se_X12_wrong kk104 (by decide) (by decide) dX12_leafRead_105 rfl rfl (by decide) (by decide) (Nat.le_of_ble_eq_true rfl) (by decide) (by decide) rfl (c_wrong) ?_
      refine pq4 ?_
      exact V_zreturn rfl (by first | exact Or.inl rfl | exact Or.inr rfl | (unfold bz; split <;> simp)) (by rw [hR, if_pos (by omega)]; exact ⟨rfl, rfl, rfl, rfl⟩) dX12_leafRead_108
theorem c_leafRead {ρ : RT} {f : IT} {g : JT} (hρ : Fx ρ) (hK : PK f) {lo : Nat} (H : SJ lo 0 0 f) (h63 : f 104 63 = 0 ∨ f 104 63 = 1) : C_X12_leafRead [.ref 104] ρ f g (fun r ρ' f' g' => r = some (.int (iz (bz (leafF f).1))) ∧ ρ' = ρ ∧ f' = (leafF f).2 ∧ g' = g) := by
  have h8 := hK.r8
  have hr := H.rng (by omega)
  refine Ct.ofV (by decide) rfl (Nat.le_of_ble_eq_true rfl) ?_
  refine V_al0n dX12_leafRead_0 ?_
  refine V_bipush dX12_leafRead_1 rfl ?_
  refine V_callV (as := [_]) ml_X12_209 im_X12_isSign se_X12_isSign kk104 (by decide) (by decide) dX12_leafRead_3 rfl rfl (by decide) (by decide) (Nat.le_of_ble_eq_true rfl) (by decide) (by decide) rfl (c_isSign (by unfold ri; omega) h8.1 h8.2) ?_
  refine pq4 ?_
  refine V_bt (tgt := 50) dX12_leafRead_6 rfl (fun b6 => ?_) (fun b6 => ?_)
  · refine V_al0n dX12_leafRead_50 ?_
    refine V_bipush dX12_leafRead_51 rfl ?_
    refine V_callV (as := [_]) ml_X12_312 im_X12_isKey se_X12_isKey kk104 (by decide) (by decide) dX12_leafRead_53 rfl rfl (by decide) (by decide) (Nat.le_of_ble_eq_true rfl) (by decide) (by decide) rfl (c_isKey (by unfold ri; omega) h8.1 h8.2) ?_
    refine pq4 ?_
    refine V_bt (tgt := 86) dX12_leafRead_56 rfl (fun b56 => ?_) (fun b56 => ?_)
    · exact w_leaf86 hρ hK H (by unfold leafF; rw [if_neg (by rw [b6]; exact Bool.false_ne_true)]; first | rw [if_neg (fun q => by rw [b56] at q; exact Bool.false_ne_true q.1)] | rw [if_neg (fun q => by omega)])
    · refine V_al0n dX12_leafRead_59 ?_
      refine V_getZ kk104 (by decide) fl_X12_365 rfl dX12_leafRead_60 ?_
      refine V_if_eq (tgt := 86) dX12_leafRead_63 rfl (by unfold ri; omega) (fun b63 => ?_) (fun b63 => ?_)
      · exact w_leaf86 hρ hK H (by unfold leafF; rw [if_neg (by rw [b6]; exact Bool.false_ne_true)]; first | rw [if_neg (fun q => by rw [b56] at q; exact Bool.false_ne_true q.1)] | rw [if_neg (fun q => by omega)])
      · refine V_al0n dX12_leafRead_66 ?_
        refine V_callV (as := []) ml_X12_368 im_X12_isCounted se_X12_isCounted kk104 (by decide) (by decide) dX12_leafRead_67 rfl rfl (by decide) (by decide) (Nat.le_of_ble_eq_true rfl) (by decide) (by decide) rfl (c_isCounted (by unfold ri; have := H.2.2.1; omega)) ?_
        refine pq4 ?_
        refine V_bf (tgt := 75) dX12_leafRead_70 rfl (fun b70 => ?_) (fun b70 => ?_)
        · refine V_al0n dX12_leafRead_75 ?_
          refine V_iconst dX12_leafRead_76 ?_
          refine V_callV (as := [_]) ml_X12_361 im_X12_waitsFor se_X12_waitsFor kk104 (by decide) (by decide) dX12_leafRead_77 rfl rfl (by decide) (by decide) (Nat.le_of_ble_eq_true rfl) (by decide) (by decide) rfl (c_waitsFor hρ (by rw [ctdF_t b70, u2_o (by omega)]; omega)) ?_
          refine pq4 ?_
          refine V_al0n dX12_leafRead_80 ?_
          refine V_callV (as := []) ml_X12_206 im_X12_token se_X12_token kk104 (by decide) (by decide) dX12_leafRead_81 rfl rfl (by decide) (by decide) (Nat.le_of_ble_eq_true rfl) (by decide) (by decide) rfl (c_tok hρ hK.ct.wts) ?_
          refine pq4 ?_
          refine V_iconst dX12_leafRead_84 ?_
          exact V_zreturn rfl (by first | exact Or.inl rfl | exact Or.inr rfl | (unfold bz; split <;> simp)) (by unfold leafF; rw [if_neg (by rw [b6]; exact Bool.false_ne_true), if_pos ⟨b56, by omega⟩, thn_t b70]; exact ⟨rfl, rfl, rfl, rfl⟩) dX12_leafRead_85
        · refine V_iconst dX12_leafRead_73 ?_
          exact V_zreturn rfl (by first | exact Or.inl rfl | exact Or.inr rfl | (unfold bz; split <;> simp)) (by unfold leafF; rw [if_neg (by rw [b6]; exact Bool.false_ne_true), if_pos ⟨b56, by omega⟩, thn_f b70]; exact ⟨rfl, rfl, rfl, rfl⟩) dX12_leafRead_74
  · refine V_al0n dX12_leafRead_9 ?_
    refine V_getI kk104 (by decide) fl_X12_358 rfl dX12_leafRead_10 ?_
    refine V_bipush dX12_leafRead_13 rfl ?_
    refine V_icmp_ne (tgt := 24) dX12_leafRead_15 rfl (by unfold ri; have := H.2.1; omega) (by unfold ri; have := H.2.1; omega) (fun b15 => ?_) (fun b15 => ?_)
    · refine V_al0n dX12_leafRead_24 ?_
      refine V_dup dX12_leafRead_25 rfl ?_
      refine V_getI kk104 (by decide) fl_X12_358 rfl dX12_leafRead_26 ?_
      refine V_iconst dX12_leafRead_29 ?_
      refine V_iadd dX12_leafRead_30 ?_
      refine V_putI kk104 (by decide) fl_X12_358 rfl dX12_leafRead_31 ?_
      refine V_al0n dX12_leafRead_34 ?_
      refine V_iconst dX12_leafRead_35 ?_
      refine V_callV (as := [_]) ml_X12_361 im_X12_waitsFor se_X12_waitsFor kk104 (by decide) (by decide) dX12_leafRead_36 rfl rfl (by decide) (by decide) (Nat.le_of_ble_eq_true rfl) (by decide) (by decide) rfl (c_waitsFor hρ (by rw [u2_o (by omega)]; omega)) ?_
      refine pq4 ?_
      refine V_al0n dX12_leafRead_39 ?_
      refine V_iconst dX12_leafRead_40 ?_
      refine V_putZ kk104 (by decide) fl_X12_365 rfl (by first | exact Or.inl rfl | exact Or.inr rfl | (unfold bz; split <;> simp)) dX12_leafRead_41 ?_
      refine V_al0n dX12_leafRead_44 ?_
      refine V_callV (as := []) ml_X12_206 im_X12_token se_X12_token kk104 (by decide) (by decide) dX12_leafRead_45 rfl rfl (by decide) (by decide) (Nat.le_of_ble_eq_true rfl) (by decide) (by decide) rfl (c_tok hρ ((hK.up (by omega) (by omega) (by omega)).wts.up (by omega) (by omega) (by omega))) ?_
      refine pq4 ?_
      refine V_iconst dX12_leafRead_48 ?_
      exact V_zreturn rfl (by first | exact Or.inl rfl | exact Or.inr rfl | (unfold bz; split <;> simp)) (by unfold leafF; rw [if_pos b6, if_neg b15]; exact ⟨rfl, rfl, rfl, rfl⟩) dX12_leafRead_49
    · refine V_al0n dX12_leafRead_18 ?_
      refine V_iconst dX12_leafRead_19 ?_
      refine V_callV (as := [_]) ml_X12_196 im_X12_wrong se_X12_wrong kk104 (by decide) (by decide) dX12_leafRead_20 rfl rfl (by decide) (by decide) (Nat.le_of_ble_eq_true rfl) (by decide) (by decide) rfl (c_wrong) ?_
      refine pq4 ?_
      exact V_zreturn rfl (by first | exact Or.inl rfl | exact Or.inr rfl | (unfold bz; split <;> simp)) (by unfold leafF; rw [if_pos b6, if_pos b15]; exact ⟨rfl, rfl, rfl, rfl⟩) dX12_leafRead_23
def sgK (f : IT) : Int := if keyB 18 f = true then 3 else if keyB 19 f = true then 4 else if f 104 8 = 5 then 5 + f 104 9 else if sgnB 43 f = true then 11 else if sgnB 45 f = true then 12 else if sgnB 42 f = true then 13 else if sgnB 47 f = true then 14 else 0
theorem sgK_rng {f : IT} (h : PK f) : sgK f = 0 ∨ 3 ≤ sgK f ∧ sgK f ≤ 14 := by
  obtain ⟨-, k1, k2, k3, k4, k5⟩ := h
  unfold sgK
  (repeat' split) <;> omega
/-- a sign of a sum -/
def sgnK (k : Int) (F : IT) : Bool × IT :=
  if rnk k = 4 ∧ 0 < F 104 58 ∧ rnk (F 133 (F 104 58 - 1).toNat) = 4 then (false, wrg 1 F)
  else thn (ctdF F) fun f1 => (true, tkF (u2 (u2 (wtsF k f1) 104 62 1) 104 63 (if rnk k < 3 then 1 else 0)))
def sgnF (f : IT) : Bool × IT :=
  if sgnB 41 f = true ∧ 0 < f 104 60 then (true, tkF (u2 (u2 (bndF 1 f) 104 58 (bndF 1 f 104 58 - 1)) 104 60 (bndF 1 f 104 60 - 1)))
  else if sgK f = 0 then (false, wrg 1 f)
  else sgnK (sgK f) (bndF (if rnk (sgK f) = 4 then 5 else rnk (sgK f)) f)
theorem rnk_3 {k : Int} (h : 3 ≤ k) : 1 ≤ rnk k := by unfold rnk; (repeat' split) <;> omega
theorem w_signs178 {ρ : RT} {F : IT} {g : JT} (hρ : Fx ρ) (hK : PK F) {lo : Nat} (H : SJ lo 1 0 F) {k : Int} (hk : 3 ≤ k ∧ k ≤ 14) :
    V_X12_signs (fun r ρ' f' g' => r = some (.int (iz (bz (sgnK k F).1))) ∧ ρ' = ρ ∧ f' = (sgnK k F).2 ∧ g' = g) 178 [.ref 104, .int (iz k)] [] ρ F g := by
  have hr := H.rng (by omega)
  have hrr := rnk_rng k
  have rk : ri k := by unfold ri; omega
  have h5 := H.2.2.2.2.1
  obtain ⟨w, hw⟩ : ∃ w : Nat, F 104 58 = (w : Int) := ⟨(F 104 58).toNat, by omega⟩
  have hW : 0 < F 104 58 → (F 133 (w - 1) = 0 ∨ 2 ≤ F 133 (w - 1) ∧ F 133 (w - 1) ≤ 14) := fun h => h5 (w - 1) (by omega)
  have ew : (F 104 58 - 1).toNat = w - 1 := by omega
  unfold sgnK
  rw [ew]
  have X : ¬ (rnk k = 4 ∧ 0 < F 104 58 ∧ rnk (F 133 (w - 1)) = 4) → V_X12_signs (fun r ρ' f' g' => r = some (.int (iz (bz (if rnk k = 4 ∧ 0 < F 104 58 ∧ rnk (F 133 (w - 1)) = 4 then (false, wrg 1 F) else thn (ctdF F) fun f1 => (true, tkF (u2 (u2 (wtsF k f1) 104 62 1) 104 63 (if rnk k < 3 then 1 else 0)))).1))) ∧ ρ' = ρ ∧ f' = (if rnk k = 4 ∧ 0 < F 104 58 ∧ rnk (F 133 (w - 1)) = 4 then (false, wrg 1 F) else thn (ctdF F) fun f1 => (true, tkF (u2 (u2 (wtsF k f1) 104 62 1) 104 63 (if rnk k < 3 then 1 else 0)))).2 ∧ g' = g) 217 [.ref 104, .int (iz k)] [] ρ F g := fun hn => by
    rw [if_neg hn]
    refine V_al0n dX12_signs_217 ?_
    refine V_callV (as := []) ml_X12_368 im_X12_isCounted se_X12_isCounted kk104 (by decide) (by decide) dX12_signs_218 rfl rfl (by decide) (by decide) (Nat.le_of_ble_eq_true rfl) (by decide) (by decide) rfl (c_isCounted (by unfold ri; have := H.2.2.1; omega)) ?_
    refine pq4 ?_
    refine V_bf (tgt := 226) dX12_signs_221 rfl (fun b221 => ?_) (fun b221 => ?_)
    · refine V_al0n dX12_signs_226 ?_
      refine V_il1n dX12_signs_227 ?_
      refine V_callV (as := [_]) ml_X12_361 im_X12_waitsFor se_X12_waitsFor kk104 (by decide) (by decide) dX12_signs_228 rfl rfl (by decide) (by decide) (Nat.le_of_ble_eq_true rfl) (by decide) (by decide) rfl (c_waitsFor hρ (by rw [ctdF_t b221, u2_o (by omega)]; omega)) ?_
      refine pq4 ?_
      refine V_al0n dX12_signs_231 ?_
      refine V_iconst dX12_signs_232 ?_
      refine V_putZ kk104 (by decide) fl_X12_374 rfl (by first | exact Or.inl rfl | exact Or.inr rfl | (unfold bz; split <;> simp)) dX12_signs_233 ?_
      refine V_al0n dX12_signs_236 ?_
      refine V_il1n dX12_signs_237 ?_
      refine V_callS (as := [_]) ml_X12_346 sm_X12_rank dX12_signs_238 rfl rfl (by decide) (by decide) (Nat.le_of_ble_eq_true rfl) (by decide) (by decide) rfl (c_rank rk) ?_
      refine pq4 ?_
      refine V_iconst dX12_signs_241 ?_
      refine V_icmp_ge (tgt := 249) dX12_signs_242 rfl (by unfold ri; omega) (by unfold ri; omega) (fun b242 => ?_) (fun b242 => ?_)
      · refine V_iconst dX12_signs_249 ?_
        refine V_putZ kk104 (by decide) fl_X12_365 rfl (by first | exact Or.inl rfl | exact Or.inr rfl | (unfold bz; split <;> simp)) dX12_signs_250 ?_
        refine V_al0n dX12_signs_253 ?_
        refine V_callV (as := []) ml_X12_206 im_X12_token se_X12_token kk104 (by decide) (by decide) dX12_signs_254 rfl rfl (by decide) (by decide) (Nat.le_of_ble_eq_true rfl) (by decide) (by decide) rfl (c_tok hρ ((hK.ct.wts.up (by omega) (by omega) (by omega)).up (by omega) (by omega) (by omega))) ?_
        refine pq4 ?_
        refine V_iconst dX12_signs_257 ?_
        exact V_zreturn rfl (by first | exact Or.inl rfl | exact Or.inr rfl | (unfold bz; split <;> simp)) (by rw [thn_t b221]; first | (rw [if_pos (by omega)]; exact ⟨rfl, rfl, rfl, rfl⟩) | (rw [if_neg (by omega)]; exact ⟨rfl, rfl, rfl, rfl⟩)) dX12_signs_258
      · refine V_iconst dX12_signs_245 ?_
        refine V_goto (tgt := 250) dX12_signs_246 rfl ?_
        refine V_putZ kk104 (by decide) fl_X12_365 rfl (by first | exact Or.inl rfl | exact Or.inr rfl | (unfold bz; split <;> simp)) dX12_signs_250 ?_
        refine V_al0n dX12_signs_253 ?_
        refine V_callV (as := []) ml_X12_206 im_X12_token se_X12_token kk104 (by decide) (by decide) dX12_signs_254 rfl rfl (by decide) (by decide) (Nat.le_of_ble_eq_true rfl) (by decide) (by decide) rfl (c_tok hρ ((hK.ct.wts.up (by omega) (by omega) (by omega)).up (by omega) (by omega) (by omega))) ?_
        refine pq4 ?_
        refine V_iconst dX12_signs_257 ?_
        exact V_zreturn rfl (by first | exact Or.inl rfl | exact Or.inr rfl | (unfold bz; split <;> simp)) (by rw [thn_t b221]; first | (rw [if_pos (by omega)]; exact ⟨rfl, rfl, rfl, rfl⟩) | (rw [if_neg (by omega)]; exact ⟨rfl, rfl, rfl, rfl⟩)) dX12_signs_258
    · refine V_iconst dX12_signs_224 ?_
      exact V_zreturn rfl (by first | exact Or.inl rfl | exact Or.inr rfl | (unfold bz; split <;> simp)) (by rw [thn_f b221]; exact ⟨rfl, rfl, rfl, rfl⟩) dX12_signs_225
  refine V_il1n dX12_signs_178 ?_
  refine V_callS (as := [_]) ml_X12_346 sm_X12_rank dX12_signs_179 rfl rfl (by decide) (by decide) (Nat.le_of_ble_eq_true rfl) (by decide) (by decide) rfl (c_rank rk) ?_
  refine pq4 ?_
  refine V_iconst dX12_signs_182 ?_
  refine V_icmp_ne (tgt := 217) dX12_signs_183 rfl (by unfold ri; omega) (by unfold ri; omega) (fun b183 => ?_) (fun b183 => ?_)
  · exact X (by omega)
  · refine V_al0n dX12_signs_186 ?_
    refine V_getI kk104 (by decide) fl_X12_343 rfl dX12_signs_187 ?_
    refine V_if_le (tgt := 217) dX12_signs_190 rfl (by unfold ri; omega) (fun b190 => ?_) (fun b190 => ?_)
    · exact X (by omega)
    · refine V_al0n dX12_signs_193 ?_
      refine V_getR kk104 (by decide) fl_X12_99 (fx_104_56 hρ) dX12_signs_194 ?_
      refine V_al0n dX12_signs_197 ?_
      refine V_getI kk104 (by decide) fl_X12_343 rfl dX12_signs_198 ?_
      refine V_iconst dX12_signs_201 ?_
      refine V_isub dX12_signs_202 ?_
      refine V_iald (k := (w - 1)) kk133 (by decide) (by omega) (by omega) (by first | decide | assumption | omega) rfl dX12_signs_203 ?_
      refine V_callS (as := [_]) ml_X12_346 sm_X12_rank dX12_signs_204 rfl rfl (by decide) (by decide) (Nat.le_of_ble_eq_true rfl) (by decide) (by decide) rfl (c_rank (by have := hW (by omega); unfold ri; omega)) ?_
      refine pq4 ?_
      refine V_iconst dX12_signs_207 ?_
      refine V_icmp_ne (tgt := 217) dX12_signs_208 rfl (by have := rnk_rng (F 133 (w - 1)); unfold ri; omega) (by have := rnk_rng (F 133 (w - 1)); unfold ri; omega) (fun b208 => ?_) (fun b208 => ?_)
      · exact X (by omega)
      · refine V_al0n dX12_signs_211 ?_
        refine V_iconst dX12_signs_212 ?_
        refine V_callV (as := [_]) ml_X12_196 im_X12_wrong se_X12_wrong kk104 (by decide) (by decide) dX12_signs_213 rfl rfl (by decide) (by decide) (Nat.le_of_ble_eq_true rfl) (by decide) (by decide) rfl (c_wrong) ?_
        refine pq4 ?_
        exact V_zreturn rfl (by first | exact Or.inl rfl | exact Or.inr rfl | (unfold bz; split <;> simp)) (by rw [if_pos ⟨by omega, by omega, by omega⟩]; exact ⟨rfl, rfl, rfl, rfl⟩) dX12_signs_216
theorem w_signs158 {ρ : RT} {f : IT} {g : JT} (hρ : Fx ρ) (hK : PK f) {lo : Nat} (H : SJ lo 1 0 f) (hz : ¬ (sgnB 41 f = true ∧ 0 < f 104 60)) {k : Int} (hk : sgK f = k) :
    V_X12_signs (fun r ρ' f' g' => r = some (.int (iz (bz (sgnF f).1))) ∧ ρ' = ρ ∧ f' = (sgnF f).2 ∧ g' = g) 147 [.ref 104, .null] [.int (iz k)] ρ f g := by
  have hkr := sgK_rng hK
  rw [hk] at hkr
  have rk : ri k := by unfold ri; omega
  have hrr := rnk_rng k
  unfold sgnF
  rw [if_neg hz, hk]
  by_cases e : k = 0
  · rw [if_pos e]
    refine V_is1n dX12_signs_147 (by decide) rfl ?_
    refine V_il1n dX12_signs_148 ?_
    refine V_if_ne (tgt := 158) dX12_signs_149 rfl (by first | assumption | (unfold ri at *; omega)) (fun b149 => ?_) (fun b149 => ?_)
    · exfalso; omega
    · refine V_al0n dX12_signs_152 ?_
      refine V_iconst dX12_signs_153 ?_
      refine V_callV (as := [_]) ml_X12_196 im_X12_wrong se_X12_wrong kk104 (by decide) (by decide) dX12_signs_154 rfl rfl (by decide) (by decide) (Nat.le_of_ble_eq_true rfl) (by decide) (by decide) rfl (c_wrong) ?_
      refine pq4 ?_
      exact V_zreturn rfl (by first | exact Or.inl rfl | exact Or.inr rfl | (unfold bz; split <;> simp)) ⟨rfl, rfl, rfl, rfl⟩ dX12_signs_157
  · rw [if_neg e]
    have hk3 : 3 ≤ k ∧ k ≤ 14 := by omega
    have hr1 := rnk_3 hk3.1
    by_cases e4 : rnk k = 4
    · rw [if_pos e4]
      have hb := bndF_ok (le := 5) (by omega) H
      refine V_is1n dX12_signs_147 (by decide) rfl ?_
      refine V_il1n dX12_signs_148 ?_
      refine V_if_ne (tgt := 158) dX12_signs_149 rfl (by first | assumption | (unfold ri at *; omega)) (fun b149 => ?_) (fun b149 => ?_)
      · refine V_al0n dX12_signs_158 ?_
        refine V_il1n dX12_signs_159 ?_
        refine V_callS (as := [_]) ml_X12_346 sm_X12_rank dX12_signs_160 rfl rfl (by decide) (by decide) (Nat.le_of_ble_eq_true rfl) (by decide) (by decide) rfl (c_rank rk) ?_
        refine pq4 ?_
        refine V_iconst dX12_signs_163 ?_
        refine V_icmp_ne (tgt := 171) dX12_signs_164 rfl (by unfold ri; omega) (by unfold ri; omega) (fun b164 => ?_) (fun b164 => ?_)
        · exfalso; omega
        · refine V_iconst dX12_signs_167 ?_
          refine V_goto (tgt := 175) dX12_signs_168 rfl ?_
          refine V_callV (as := [_]) ml_X12_377 im_X12_bind se_X12_bind kk104 (by decide) (by decide) dX12_signs_175 rfl rfl (by decide) (by decide) (Nat.le_of_ble_eq_true rfl) (by decide) (by decide) rfl (c_bind hρ H (by omega)) ?_
          refine pq4 ?_
          exact w_signs178 hρ (hb.2.1.pk hK) hb.1 hk3
      · exfalso; omega
    · rw [if_neg e4]
      have hb := bndF_ok (le := rnk k) (by omega) H
      refine V_is1n dX12_signs_147 (by decide) rfl ?_
      refine V_il1n dX12_signs_148 ?_
      refine V_if_ne (tgt := 158) dX12_signs_149 rfl (by first | assumption | (unfold ri at *; omega)) (fun b149 => ?_) (fun b149 => ?_)
      · refine V_al0n dX12_signs_158 ?_
        refine V_il1n dX12_signs_159 ?_
        refine V_callS (as := [_]) ml_X12_346 sm_X12_rank dX12_signs_160 rfl rfl (by decide) (by decide) (Nat.le_of_ble_eq_true rfl) (by decide) (by decide) rfl (c_rank rk) ?_
        refine pq4 ?_
        refine V_iconst dX12_signs_163 ?_
        refine V_icmp_ne (tgt := 171) dX12_signs_164 rfl (by unfold ri; omega) (by unfold ri; omega) (fun b164 => ?_) (fun b164 => ?_)
        · refine V_il1n dX12_signs_171 ?_
          refine V_callS (as := [_]) ml_X12_346 sm_X12_rank dX12_signs_172 rfl rfl (by decide) (by decide) (Nat.le_of_ble_eq_true rfl) (by decide) (by decide) rfl (c_rank rk) ?_
          refine pq4 ?_
          refine V_callV (as := [_]) ml_X12_377 im_X12_bind se_X12_bind kk104 (by decide) (by decide) dX12_signs_175 rfl rfl (by decide) (by decide) (Nat.le_of_ble_eq_true rfl) (by decide) (by decide) rfl (c_bind hρ H (by omega)) ?_
          refine pq4 ?_
          exact w_signs178 hρ (hb.2.1.pk hK) hb.1 hk3
        · exfalso; omega
      · exfalso; omega
theorem w_signs47 {ρ : RT} {f : IT} {g : JT} (hρ : Fx ρ) (hK : PK f) {lo : Nat} (H : SJ lo 1 0 f) (hz : ¬ (sgnB 41 f = true ∧ 0 < f 104 60)) :
    V_X12_signs (fun r ρ' f' g' => r = some (.int (iz (bz (sgnF f).1))) ∧ ρ' = ρ ∧ f' = (sgnF f).2 ∧ g' = g) 47 [.ref 104, .null] [] ρ f g := by
  have h8 := hK.r8
  refine V_al0n dX12_signs_47 ?_
  refine V_bipush dX12_signs_48 rfl ?_
  refine V_callV (as := [_]) ml_X12_312 im_X12_isKey se_X12_isKey kk104 (by decide) (by decide) dX12_signs_50 rfl rfl (by decide) (by decide) (Nat.le_of_ble_eq_true rfl) (by decide) (by decide) rfl (c_isKey (by unfold ri; omega) h8.1 h8.2) ?_
  refine pq4 ?_
  refine V_bt (tgt := 60) dX12_signs_53 rfl (fun b53 => ?_) (fun b53 => ?_)
  · refine V_al0n dX12_signs_60 ?_
    refine V_bipush dX12_signs_61 rfl ?_
    refine V_callV (as := [_]) ml_X12_312 im_X12_isKey se_X12_isKey kk104 (by decide) (by decide) dX12_signs_63 rfl rfl (by decide) (by decide) (Nat.le_of_ble_eq_true rfl) (by decide) (by decide) rfl (c_isKey (by unfold ri; omega) h8.1 h8.2) ?_
    refine pq4 ?_
    refine V_bt (tgt := 73) dX12_signs_66 rfl (fun b66 => ?_) (fun b66 => ?_)
    · refine V_al0n dX12_signs_73 ?_
      refine V_getI kk104 (by decide) fl_X12_172 rfl dX12_signs_74 ?_
      refine V_iconst dX12_signs_77 ?_
      refine V_icmp_ne (tgt := 90) dX12_signs_78 rfl (by first | exact h8.1 | (unfold ri; omega)) (by first | exact h8.1 | (unfold ri; omega)) (fun b78 => ?_) (fun b78 => ?_)
      · refine V_al0n dX12_signs_90 ?_
        refine V_bipush dX12_signs_91 rfl ?_
        refine V_callV (as := [_]) ml_X12_209 im_X12_isSign se_X12_isSign kk104 (by decide) (by decide) dX12_signs_93 rfl rfl (by decide) (by decide) (Nat.le_of_ble_eq_true rfl) (by decide) (by decide) rfl (c_isSign (by unfold ri; omega) h8.1 h8.2) ?_
        refine pq4 ?_
        refine V_bt (tgt := 104) dX12_signs_96 rfl (fun b96 => ?_) (fun b96 => ?_)
        · refine V_al0n dX12_signs_104 ?_
          refine V_bipush dX12_signs_105 rfl ?_
          refine V_callV (as := [_]) ml_X12_209 im_X12_isSign se_X12_isSign kk104 (by decide) (by decide) dX12_signs_107 rfl rfl (by decide) (by decide) (Nat.le_of_ble_eq_true rfl) (by decide) (by decide) rfl (c_isSign (by unfold ri; omega) h8.1 h8.2) ?_
          refine pq4 ?_
          refine V_bt (tgt := 118) dX12_signs_110 rfl (fun b110 => ?_) (fun b110 => ?_)
          · refine V_al0n dX12_signs_118 ?_
            refine V_bipush dX12_signs_119 rfl ?_
            refine V_callV (as := [_]) ml_X12_209 im_X12_isSign se_X12_isSign kk104 (by decide) (by decide) dX12_signs_121 rfl rfl (by decide) (by decide) (Nat.le_of_ble_eq_true rfl) (by decide) (by decide) rfl (c_isSign (by unfold ri; omega) h8.1 h8.2) ?_
            refine pq4 ?_
            refine V_bt (tgt := 132) dX12_signs_124 rfl (fun b124 => ?_) (fun b124 => ?_)
            · refine V_al0n dX12_signs_132 ?_
              refine V_bipush dX12_signs_133 rfl ?_
              refine V_callV (as := [_]) ml_X12_209 im_X12_isSign se_X12_isSign kk104 (by decide) (by decide) dX12_signs_135 rfl rfl (by decide) (by decide) (Nat.le_of_ble_eq_true rfl) (by decide) (by decide) rfl (c_isSign (by unfold ri; omega) h8.1 h8.2) ?_
              refine pq4 ?_
              refine V_bt (tgt := 146) dX12_signs_138 rfl (fun b138 => ?_) (fun b138 => ?_)
              · refine V_iconst dX12_signs_146 ?_
                exact w_signs158 hρ hK H hz (by unfold sgK; simp [*])
              · refine V_bipush dX12_signs_141 rfl ?_
                refine V_goto (tgt := 147) dX12_signs_143 rfl ?_
                exact w_signs158 hρ hK H hz (by unfold sgK; simp [*])
            · refine V_bipush dX12_signs_127 rfl ?_
              refine V_goto (tgt := 147) dX12_signs_129 rfl ?_
              exact w_signs158 hρ hK H hz (by unfold sgK; simp [*])
          · refine V_bipush dX12_signs_113 rfl ?_
            refine V_goto (tgt := 147) dX12_signs_115 rfl ?_
            exact w_signs158 hρ hK H hz (by unfold sgK; simp [*])
        · refine V_bipush dX12_signs_99 rfl ?_
          refine V_goto (tgt := 147) dX12_signs_101 rfl ?_
          exact w_signs158 hρ hK H hz (by unfold sgK; simp [*])
      · refine V_iconst dX12_signs_81 ?_
        refine V_al0n dX12_signs_82 ?_
        refine V_getI kk104 (by decide) fl_X12_183 rfl dX12_signs_83 ?_
        refine V_iadd dX12_signs_86 ?_
        refine V_goto (tgt := 147) dX12_signs_87 rfl ?_
        exact w_signs158 hρ hK H hz (by unfold sgK; simp [*])
    · refine V_iconst dX12_signs_69 ?_
      refine V_goto (tgt := 147) dX12_signs_70 rfl ?_
      exact w_signs158 hρ hK H hz (by unfold sgK; simp [*])
  · refine V_iconst dX12_signs_56 ?_
    refine V_goto (tgt := 147) dX12_signs_57 rfl ?_
    exact w_signs158 hρ hK H hz (by unfold sgK; simp [*])
theorem c_signs {ρ : RT} {f : IT} {g : JT} (hρ : Fx ρ) (hK : PK f) {lo : Nat} (H : SJ lo 1 0 f) : C_X12_signs [.ref 104] ρ f g (fun r ρ' f' g' => r = some (.int (iz (bz (sgnF f).1))) ∧ ρ' = ρ ∧ f' = (sgnF f).2 ∧ g' = g) := by
  have h8 := hK.r8
  have hr := H.rng (by omega)
  have hb := bndF_ok (le := 1) (by omega) H
  refine Ct.ofV (by decide) rfl (Nat.le_of_ble_eq_true rfl) ?_
  refine V_al0n dX12_signs_0 ?_
  refine V_bipush dX12_signs_1 rfl ?_
  refine V_callV (as := [_]) ml_X12_209 im_X12_isSign se_X12_isSign kk104 (by decide) (by decide) dX12_signs_3 rfl rfl (by decide) (by decide) (Nat.le_of_ble_eq_true rfl) (by decide) (by decide) rfl (c_isSign (by unfold ri; omega) h8.1 h8.2) ?_
  refine pq4 ?_
  refine V_bt (tgt := 47) dX12_signs_6 rfl (fun b6 => ?_) (fun b6 => ?_)
  · exact w_signs47 hρ hK H (by first | (intro q; rw [b6] at q; exact Bool.false_ne_true q.1) | (intro q; omega))
  · refine V_al0n dX12_signs_9 ?_
    refine V_getI kk104 (by decide) fl_X12_358 rfl dX12_signs_10 ?_
    refine V_if_le (tgt := 47) dX12_signs_13 rfl (by unfold ri; have := H.2.1; omega) (fun b13 => ?_) (fun b13 => ?_)
    · exact w_signs47 hρ hK H (by first | (intro q; rw [b6] at q; exact Bool.false_ne_true q.1) | (intro q; omega))
    · refine V_al0n dX12_signs_16 ?_
      refine V_iconst dX12_signs_17 ?_
      refine V_callV (as := [_]) ml_X12_377 im_X12_bind se_X12_bind kk104 (by decide) (by decide) dX12_signs_18 rfl rfl (by decide) (by decide) (Nat.le_of_ble_eq_true rfl) (by decide) (by decide) rfl (c_bind hρ H (by omega)) ?_
      refine pq4 ?_
      refine V_al0n dX12_signs_21 ?_
      refine V_dup dX12_signs_22 rfl ?_
      refine V_getI kk104 (by decide) fl_X12_343 rfl dX12_signs_23 ?_
      refine V_iconst dX12_signs_26 ?_
      refine V_isub dX12_signs_27 ?_
      refine V_putI kk104 (by decide) fl_X12_343 rfl dX12_signs_28 ?_
      refine V_al0n dX12_signs_31 ?_
      refine V_dup dX12_signs_32 rfl ?_
      refine V_getI kk104 (by decide) fl_X12_358 (u2_n (by decide) rfl) dX12_signs_33 ?_
      refine V_iconst dX12_signs_36 ?_
      refine V_isub dX12_signs_37 ?_
      refine V_putI kk104 (by decide) fl_X12_358 rfl dX12_signs_38 ?_
      refine V_al0n dX12_signs_41 ?_
      refine V_callV (as := []) ml_X12_206 im_X12_token se_X12_token kk104 (by decide) (by decide) dX12_signs_42 rfl rfl (by decide) (by decide) (Nat.le_of_ble_eq_true rfl) (by decide) (by decide) rfl (c_tok hρ (((hb.2.1.pk hK).up (by omega) (by omega) (by omega)).up (by omega) (by omega) (by omega))) ?_
      refine pq4 ?_
      refine V_iconst dX12_signs_45 ?_
      exact V_zreturn rfl (by first | exact Or.inl rfl | exact Or.inr rfl | (unfold bz; split <;> simp)) (by unfold sgnF; rw [if_pos ⟨b6, by omega⟩]; exact ⟨rfl, rfl, rfl, rfl⟩) dX12_signs_46

