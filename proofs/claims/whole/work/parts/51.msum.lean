/-! a sum, as the reference reads it -/
def rnk (k : Int) : Int := if 13 ≤ k then 6 else if 11 ≤ k then 5 else if 5 ≤ k then 4 else if k = 2 then 3 else if k = 3 then 2 else if k = 4 then 1 else 0
theorem c_rank {ρ : RT} {f : IT} {g : JT} {k : Int} (rk : ri k) : C_X12_rank [.int (iz k)] ρ f g (fun r ρ' f' g' => r = some (.int (iz (rnk k))) ∧ ρ' = ρ ∧ f' = f ∧ g' = g) := by
  refine Ct.ofV (by decide) rfl (Nat.le_of_ble_eq_true rfl) ?_
  refine V_il0n dX12_rank_0 ?_
  refine V_bipush dX12_rank_1 rfl ?_
  refine V_icmp_lt (tgt := 11) dX12_rank_3 rfl (by first | assumption | (unfold ri at *; omega)) (by first | assumption | (unfold ri at *; omega)) (fun b3 => ?_) (fun b3 => ?_)
  · refine V_il0n dX12_rank_11 ?_
    refine V_bipush dX12_rank_12 rfl ?_
    refine V_icmp_lt (tgt := 21) dX12_rank_14 rfl (by first | assumption | (unfold ri at *; omega)) (by first | assumption | (unfold ri at *; omega)) (fun b14 => ?_) (fun b14 => ?_)
    · refine V_il0n dX12_rank_21 ?_
      refine V_iconst dX12_rank_22 ?_
      refine V_icmp_lt (tgt := 30) dX12_rank_23 rfl (by first | assumption | (unfold ri at *; omega)) (by first | assumption | (unfold ri at *; omega)) (fun b23 => ?_) (fun b23 => ?_)
      · refine V_il0n dX12_rank_30 ?_
        refine V_iconst dX12_rank_31 ?_
        refine V_icmp_ne (tgt := 39) dX12_rank_32 rfl (by first | assumption | (unfold ri at *; omega)) (by first | assumption | (unfold ri at *; omega)) (fun b32 => ?_) (fun b32 => ?_)
        · refine V_il0n dX12_rank_39 ?_
          refine V_iconst dX12_rank_40 ?_
          refine V_icmp_ne (tgt := 48) dX12_rank_41 rfl (by first | assumption | (unfold ri at *; omega)) (by first | assumption | (unfold ri at *; omega)) (fun b41 => ?_) (fun b41 => ?_)
          · refine V_il0n dX12_rank_48 ?_
            refine V_iconst dX12_rank_49 ?_
            refine V_icmp_ne (tgt := 57) dX12_rank_50 rfl (by first | assumption | (unfold ri at *; omega)) (by first | assumption | (unfold ri at *; omega)) (fun b50 => ?_) (fun b50 => ?_)
            · refine V_iconst dX12_rank_57 ?_
              exact V_ireturn rfl ⟨by unfold rnk; congr 3; (repeat' split) <;> omega, rfl, rfl, rfl⟩ dX12_rank_58
            · refine V_iconst dX12_rank_53 ?_
              refine V_goto (tgt := 58) dX12_rank_54 rfl ?_
              exact V_ireturn rfl ⟨by unfold rnk; congr 3; (repeat' split) <;> omega, rfl, rfl, rfl⟩ dX12_rank_58
          · refine V_iconst dX12_rank_44 ?_
            refine V_goto (tgt := 58) dX12_rank_45 rfl ?_
            exact V_ireturn rfl ⟨by unfold rnk; congr 3; (repeat' split) <;> omega, rfl, rfl, rfl⟩ dX12_rank_58
        · refine V_iconst dX12_rank_35 ?_
          refine V_goto (tgt := 58) dX12_rank_36 rfl ?_
          exact V_ireturn rfl ⟨by unfold rnk; congr 3; (repeat' split) <;> omega, rfl, rfl, rfl⟩ dX12_rank_58
      · refine V_iconst dX12_rank_26 ?_
        refine V_goto (tgt := 58) dX12_rank_27 rfl ?_
        exact V_ireturn rfl ⟨by unfold rnk; congr 3; (repeat' split) <;> omega, rfl, rfl, rfl⟩ dX12_rank_58
    · refine V_iconst dX12_rank_17 ?_
      refine V_goto (tgt := 58) dX12_rank_18 rfl ?_
      exact V_ireturn rfl ⟨by unfold rnk; congr 3; (repeat' split) <;> omega, rfl, rfl, rfl⟩ dX12_rank_58
  · refine V_bipush dX12_rank_6 rfl ?_
    refine V_goto (tgt := 58) dX12_rank_8 rfl ?_
    exact V_ireturn rfl ⟨by unfold rnk; congr 3; (repeat' split) <;> omega, rfl, rfl, rfl⟩ dX12_rank_58
theorem rnk_rng (k : Int) : 0 ≤ rnk k ∧ rnk k ≤ 6 := by unfold rnk; (repeat' split) <;> omega
def grwF (k a b : Int) (f : IT) : IT := u2 (u2 (u2 (u2 (u2 (u2 f 130 (64 + (f 104 25).toNat) k) 131 (64 + (f 104 25).toNat) a) 132 (64 + (f 104 25).toNat) b) 134 (f 104 59).toNat (f 104 25)) 104 59 (f 104 59 + 1)) 104 25 (f 104 25 + 1)
theorem c_grown {ρ : RT} {f : IT} {g : JT} (hρ : Fx ρ) (h25 : 0 ≤ f 104 25 ∧ f 104 25 < 64) (h59 : 0 ≤ f 104 59 ∧ f 104 59 < 96) {k a b : Int} : C_X12_grown [.ref 104, .int (iz k), .int (iz a), .int (iz b)] ρ f g (fun r ρ' f' g' => r = none ∧ ρ' = ρ ∧ f' = grwF k a b f ∧ g' = g) := by
  obtain ⟨n, hn⟩ : ∃ n : Nat, f 104 25 = n := ⟨(f 104 25).toNat, by omega⟩
  obtain ⟨m, hm⟩ : ∃ n : Nat, f 104 59 = n := ⟨(f 104 59).toNat, by omega⟩
  unfold grwF
  rw [hn, hm]
  refine Ct.ofV (by decide) rfl (Nat.le_of_ble_eq_true rfl) ?_
  refine V_al0n dX12_grown_0 ?_
  refine V_getR kk104 (by decide) fl_X12_90 (fx_104_53 hρ) dX12_grown_1 ?_
  refine V_bipush dX12_grown_4 rfl ?_
  refine V_al0n dX12_grown_6 ?_
  refine V_getI kk104 (by decide) fl_X12_231 hn dX12_grown_7 ?_
  refine V_iadd dX12_grown_10 ?_
  refine V_il1n dX12_grown_11 ?_
  refine V_iast (k := 64 + n) kk130 (by decide) (by first | rfl | omega) (by omega) (by first | decide | assumption | omega) dX12_grown_12 ?_
  refine V_al0n dX12_grown_13 ?_
  refine V_getR kk104 (by decide) fl_X12_93 (fx_104_54 hρ) dX12_grown_14 ?_
  refine V_bipush dX12_grown_17 rfl ?_
  refine V_al0n dX12_grown_19 ?_
  refine V_getI kk104 (by decide) fl_X12_231 (u2_n (by omega) hn) dX12_grown_20 ?_
  refine V_iadd dX12_grown_23 ?_
  refine V_il2n dX12_grown_24 ?_
  refine V_iast (k := 64 + n) kk131 (by decide) (by first | rfl | omega) (by omega) (by first | decide | assumption | omega) dX12_grown_25 ?_
  refine V_al0n dX12_grown_26 ?_
  refine V_getR kk104 (by decide) fl_X12_96 (fx_104_55 hρ) dX12_grown_27 ?_
  refine V_bipush dX12_grown_30 rfl ?_
  refine V_al0n dX12_grown_32 ?_
  refine V_getI kk104 (by decide) fl_X12_231 (u2_n (by omega) (u2_n (by omega) hn)) dX12_grown_33 ?_
  refine V_iadd dX12_grown_36 ?_
  refine V_il3n dX12_grown_37 ?_
  refine V_iast (k := 64 + n) kk132 (by decide) (by first | rfl | omega) (by omega) (by first | decide | assumption | omega) dX12_grown_38 ?_
  refine V_al0n dX12_grown_39 ?_
  refine V_getR kk104 (by decide) fl_X12_102 (fx_104_57 hρ) dX12_grown_40 ?_
  refine V_al0n dX12_grown_43 ?_
  refine V_getI kk104 (by decide) fl_X12_340 (u2_n (by omega) (u2_n (by omega) (u2_n (by omega) hm))) dX12_grown_44 ?_
  refine V_al0n dX12_grown_47 ?_
  refine V_getI kk104 (by decide) fl_X12_231 (u2_n (by omega) (u2_n (by omega) (u2_n (by omega) hn))) dX12_grown_48 ?_
  refine V_iast (k := m) kk134 (by decide) (by first | rfl | omega) (by omega) (by first | decide | assumption | omega) dX12_grown_51 ?_
  refine V_al0n dX12_grown_52 ?_
  refine V_dup dX12_grown_53 rfl ?_
  refine V_getI kk104 (by decide) fl_X12_340 (u2_n (by omega) (u2_n (by omega) (u2_n (by omega) (u2_n (by omega) hm)))) dX12_grown_54 ?_
  refine V_iconst dX12_grown_57 ?_
  refine V_iadd dX12_grown_58 ?_
  refine V_putI kk104 (by decide) fl_X12_340 rfl dX12_grown_59 ?_
  refine V_al0n dX12_grown_62 ?_
  refine V_dup dX12_grown_63 rfl ?_
  refine V_getI kk104 (by decide) fl_X12_231 (u2_n (by decide) (u2_n (by omega) (u2_n (by omega) (u2_n (by omega) (u2_n (by omega) hn))))) dX12_grown_64 ?_
  refine V_iconst dX12_grown_67 ?_
  refine V_iadd dX12_grown_68 ?_
  refine V_putI kk104 (by decide) fl_X12_231 rfl dX12_grown_69 ?_
  exact V_return rfl ⟨rfl, rfl, rfl, rfl⟩ dX12_grown_72
def drpF (f : IT) : IT := u2 f 104 59 (f 104 59 - 1)
def drpV (f : IT) : Int := f 134 (f 104 59 - 1).toNat
theorem c_dropHeld {ρ : RT} {f : IT} {g : JT} (hρ : Fx ρ) (h59 : 1 ≤ f 104 59 ∧ f 104 59 ≤ 96) : C_X12_dropHeld [.ref 104] ρ f g (fun r ρ' f' g' => r = some (.int (iz (drpV f))) ∧ ρ' = ρ ∧ f' = drpF f ∧ g' = g) := by
  obtain ⟨m, hm⟩ : ∃ n : Nat, f 104 59 = n + 1 := ⟨(f 104 59 - 1).toNat, by omega⟩
  have e : (f 104 59 - 1).toNat = m := by omega
  unfold drpV drpF
  rw [e]
  refine Ct.ofV (by decide) rfl (Nat.le_of_ble_eq_true rfl) ?_
  refine V_al0n dX12_dropHeld_0 ?_
  refine V_dup dX12_dropHeld_1 rfl ?_
  refine V_getI kk104 (by decide) fl_X12_340 rfl dX12_dropHeld_2 ?_
  refine V_iconst dX12_dropHeld_5 ?_
  refine V_isub dX12_dropHeld_6 ?_
  refine V_putI kk104 (by decide) fl_X12_340 rfl dX12_dropHeld_7 ?_
  refine V_al0n dX12_dropHeld_10 ?_
  refine V_getR kk104 (by decide) fl_X12_102 (fx_104_57 hρ) dX12_dropHeld_11 ?_
  refine V_al0n dX12_dropHeld_14 ?_
  refine V_getI kk104 (by decide) fl_X12_340 u2_s dX12_dropHeld_15 ?_
  refine V_iald (k := m) kk134 (by decide) (by first | rfl | omega) (by omega) (by first | decide | assumption | omega) (u2_n (by omega) rfl) dX12_dropHeld_18 ?_
  exact V_ireturn rfl ⟨rfl, rfl, rfl, rfl⟩ dX12_dropHeld_19
def wtsF (k : Int) (f : IT) : IT := u2 (u2 f 133 (f 104 58).toNat k) 104 58 (f 104 58 + 1)
theorem c_waitsFor {ρ : RT} {f : IT} {g : JT} (hρ : Fx ρ) (h58 : 0 ≤ f 104 58 ∧ f 104 58 < 96) {k : Int} : C_X12_waitsFor [.ref 104, .int (iz k)] ρ f g (fun r ρ' f' g' => r = none ∧ ρ' = ρ ∧ f' = wtsF k f ∧ g' = g) := by
  obtain ⟨n, hn⟩ : ∃ n : Nat, f 104 58 = n := ⟨(f 104 58).toNat, by omega⟩
  unfold wtsF
  rw [hn]
  refine Ct.ofV (by decide) rfl (Nat.le_of_ble_eq_true rfl) ?_
  refine V_al0n dX12_waitsFor_0 ?_
  refine V_getR kk104 (by decide) fl_X12_99 (fx_104_56 hρ) dX12_waitsFor_1 ?_
  refine V_al0n dX12_waitsFor_4 ?_
  refine V_getI kk104 (by decide) fl_X12_343 hn dX12_waitsFor_5 ?_
  refine V_il1n dX12_waitsFor_8 ?_
  refine V_iast (k := n) kk133 (by decide) (by first | rfl | omega) (by omega) (by first | decide | assumption | omega) dX12_waitsFor_9 ?_
  refine V_al0n dX12_waitsFor_10 ?_
  refine V_dup dX12_waitsFor_11 rfl ?_
  refine V_getI kk104 (by decide) fl_X12_343 (u2_n (by omega) hn) dX12_waitsFor_12 ?_
  refine V_iconst dX12_waitsFor_15 ?_
  refine V_iadd dX12_waitsFor_16 ?_
  refine V_putI kk104 (by decide) fl_X12_343 rfl dX12_waitsFor_17 ?_
  exact V_return rfl ⟨rfl, rfl, rfl, rfl⟩ dX12_waitsFor_20
def ctdF (f : IT) : Bool × IT := if f 104 61 = 64 then (false, wrg 2 f) else (true, u2 f 104 61 (f 104 61 + 1))
theorem c_isCounted {ρ : RT} {f : IT} {g : JT} (h61 : ri (f 104 61)) : C_X12_isCounted [.ref 104] ρ f g (fun r ρ' f' g' => r = some (.int (iz (bz (ctdF f).1))) ∧ ρ' = ρ ∧ f' = (ctdF f).2 ∧ g' = g) := by
  refine Ct.ofV (by decide) rfl (Nat.le_of_ble_eq_true rfl) ?_
  refine V_al0n dX12_isCounted_0 ?_
  refine V_getI kk104 (by decide) fl_X12_234 rfl dX12_isCounted_1 ?_
  refine V_bipush dX12_isCounted_4 rfl ?_
  refine V_icmp_ne (tgt := 15) dX12_isCounted_6 rfl (by first | assumption | (unfold ri at *; omega)) (by first | assumption | (unfold ri at *; omega)) (fun b6 => ?_) (fun b6 => ?_)
  · refine V_al0n dX12_isCounted_15 ?_
    refine V_dup dX12_isCounted_16 rfl ?_
    refine V_getI kk104 (by decide) fl_X12_234 rfl dX12_isCounted_17 ?_
    refine V_iconst dX12_isCounted_20 ?_
    refine V_iadd dX12_isCounted_21 ?_
    refine V_putI kk104 (by decide) fl_X12_234 rfl dX12_isCounted_22 ?_
    refine V_iconst dX12_isCounted_25 ?_
    exact V_zreturn rfl (by first | exact Or.inl rfl | exact Or.inr rfl | (unfold bz; split <;> simp)) (by unfold ctdF; rw [if_neg b6]; exact ⟨rfl, rfl, rfl, rfl⟩) dX12_isCounted_26
  · refine V_al0n dX12_isCounted_9 ?_
    refine V_iconst dX12_isCounted_10 ?_
    refine V_callV (as := [_]) ml_X12_196 im_X12_wrong se_X12_wrong kk104 (by decide) (by decide) dX12_isCounted_11 rfl rfl (by decide) (by decide) (Nat.le_of_ble_eq_true rfl) (by decide) (by decide) rfl (c_wrong) ?_
    refine pq4 ?_
    exact V_zreturn rfl (by first | exact Or.inl rfl | exact Or.inr rfl | (unfold bz; split <;> simp)) (by unfold ctdF; rw [if_pos b6]; exact ⟨rfl, rfl, rfl, rfl⟩) dX12_isCounted_14
def nmtV (f : IT) : Int := if f 104 8 = 1 ∧ 21 ≤ f 104 9 then f 104 9 - 21 else -1
theorem c_nameMet {ρ : RT} {f : IT} {g : JT} (hK : PK f) : C_X12_nameMet [.ref 104] ρ f g (fun r ρ' f' g' => r = some (.int (iz (nmtV f))) ∧ ρ' = ρ ∧ f' = f ∧ g' = g) := by
  have h8 := hK.r8
  refine Ct.ofV (by decide) rfl (Nat.le_of_ble_eq_true rfl) ?_
  refine V_al0n dX12_nameMet_0 ?_
  refine V_getI kk104 (by decide) fl_X12_172 rfl dX12_nameMet_1 ?_
  refine V_iconst dX12_nameMet_4 ?_
  refine V_icmp_ne (tgt := 27) dX12_nameMet_5 rfl (by first | exact h8.1 | (unfold ri; omega)) (by first | exact h8.1 | (unfold ri; omega)) (fun b5 => ?_) (fun b5 => ?_)
  · refine V_iconst dX12_nameMet_27 ?_
    exact V_ireturn rfl ⟨by unfold nmtV; congr 3; split <;> omega, rfl, rfl, rfl⟩ dX12_nameMet_28
  · refine V_al0n dX12_nameMet_8 ?_
    refine V_getI kk104 (by decide) fl_X12_183 rfl dX12_nameMet_9 ?_
    refine V_bipush dX12_nameMet_12 rfl ?_
    refine V_icmp_lt (tgt := 27) dX12_nameMet_14 rfl (by first | exact h8.2 | (unfold ri; omega)) (by first | exact h8.2 | (unfold ri; omega)) (fun b14 => ?_) (fun b14 => ?_)
    · refine V_iconst dX12_nameMet_27 ?_
      exact V_ireturn rfl ⟨by unfold nmtV; congr 3; split <;> omega, rfl, rfl, rfl⟩ dX12_nameMet_28
    · refine V_al0n dX12_nameMet_17 ?_
      refine V_getI kk104 (by decide) fl_X12_183 rfl dX12_nameMet_18 ?_
      refine V_bipush dX12_nameMet_21 rfl ?_
      refine V_isub dX12_nameMet_23 ?_
      refine V_goto (tgt := 28) dX12_nameMet_24 rfl ?_
      exact V_ireturn rfl ⟨by unfold nmtV; congr 3; split <;> omega, rfl, rfl, rfl⟩ dX12_nameMet_28
/-! the knots as a stack -/
def pst (K : Nat → Int) (lo : Nat) : Nat → List Nat
  | 0 => []
  | n + 1 => if K (lo + n) ≤ 1 then (lo + n) :: pst K lo n else if K (lo + n) = 2 then (lo + n) :: (pst K lo n).drop 1 else (lo + n) :: (pst K lo n).drop 2
def stV (K P O : Nat → Int) (lo : Nat) : Nat → Prop
  | 0 => True
  | n + 1 => stV K P O lo n ∧ (0 ≤ K (lo + n) ∧ K (lo + n) ≤ 14) ∧ (K (lo + n) = 0 → 0 ≤ P (lo + n) ∧ P (lo + n) ≤ 9999) ∧ (K (lo + n) = 1 → 0 ≤ P (lo + n) ∧ P (lo + n) ≤ 7) ∧ (K (lo + n) = 2 → ∃ a s, pst K lo n = a :: s ∧ P (lo + n) = (a : Int)) ∧ (3 ≤ K (lo + n) → ∃ b a s, pst K lo n = b :: a :: s ∧ P (lo + n) = (a : Int) ∧ O (lo + n) = (b : Int))
theorem pst_cg {K K' : Nat → Int} {lo : Nat} : ∀ n, (∀ i, i < n → K (lo + i) = K' (lo + i)) → pst K lo n = pst K' lo n
  | 0, _ => rfl
  | n + 1, h => by
    simp only [pst]
    rw [pst_cg n (fun i hi => h i (by omega)), h n (by omega)]
theorem stV_cg {K P O K' P' O' : Nat → Int} {lo : Nat} : ∀ n, (∀ i, i < n → K (lo + i) = K' (lo + i) ∧ P (lo + i) = P' (lo + i) ∧ O (lo + i) = O' (lo + i)) → stV K P O lo n → stV K' P' O' lo n
  | 0, _, _ => trivial
  | n + 1, h, hs => by
    obtain ⟨e1, e2, e3⟩ := h n (by omega)
    have ep := pst_cg (K := K) (K' := K') (lo := lo) n (fun i hi => (h i (by omega)).1)
    simp only [stV] at hs ⊢
    rw [e1, e2, e3, ep] at hs
    exact ⟨stV_cg n (fun i hi => h i (by omega)) hs.1, hs.2⟩
theorem pst_mem {K : Nat → Int} {lo : Nat} : ∀ n i, i ∈ pst K lo n → lo ≤ i ∧ i < lo + n
  | 0, i, h => by simp [pst] at h
  | n + 1, i, h => by
    have key : ∀ m, i ∈ (lo + n) :: (pst K lo n).drop m → lo ≤ i ∧ i < lo + (n + 1) := fun m hm => by
      rcases List.mem_cons.mp hm with e | e
      · omega
      · have := pst_mem n i (List.mem_of_mem_drop e); omega
    unfold pst at h
    (repeat' split at h)
    · exact key 0 h
    · exact key 1 h
    · exact key 2 h
theorem pst_hd {K : Nat → Int} {lo n : Nat} : ∃ s, pst K lo (n + 1) = (lo + n) :: s := by
  unfold pst
  (repeat' split)
  · exact ⟨_, rfl⟩
  · exact ⟨_, rfl⟩
  · exact ⟨_, rfl⟩
/-- the held ones, the last first -/
def hls (r : Nat → Int) : Nat → List Int
  | 0 => []
  | h + 1 => r h :: hls r h
theorem hls_cg {r r' : Nat → Int} : ∀ h, (∀ i, i < h → r i = r' i) → hls r h = hls r' h
  | 0, _ => rfl
  | h + 1, q => by simp only [hls]; rw [q h (by omega), hls_cg h (fun i hi => q i (by omega))]
theorem hls_len {r : Nat → Int} : ∀ h, (hls r h).length = h
  | 0 => rfl
  | h + 1 => by simp [hls, hls_len h]
def cnt (P : Int → Bool) (r : Nat → Int) : Nat → Int
  | 0 => 0
  | n + 1 => cnt P r n + (if P (r n) = true then 1 else 0)
theorem cnt_cg {P : Int → Bool} {r r' : Nat → Int} : ∀ n, (∀ i, i < n → r i = r' i) → cnt P r n = cnt P r' n
  | 0, _ => rfl
  | n + 1, h => by simp only [cnt]; rw [cnt_cg n (fun i hi => h i (by omega)), h n (by omega)]
theorem cnt_rng {P : Int → Bool} {r : Nat → Int} : ∀ n : Nat, 0 ≤ cnt P r n ∧ cnt P r n ≤ n
  | 0 => by simp [cnt]
  | n + 1 => by
    have := cnt_rng (P := P) (r := r) n
    simp only [cnt]
    split <;> omega
def isZ (k : Int) : Bool := decide (k = 0)
def isO (k : Int) : Bool := decide (k ≠ 0)
def isB (k : Int) : Bool := decide (3 ≤ k)
theorem cnt_zo {r : Nat → Int} : ∀ n : Nat, cnt isZ r n + cnt isO r n = n ∧ cnt isB r n ≤ cnt isO r n
  | 0 => by simp [cnt]
  | n + 1 => by
    have := cnt_zo (r := r) n
    simp only [cnt, isZ, isO, isB, decide_eq_true_eq] at *
    (repeat' split) <;> omega
theorem hls_drop {r : Nat → Int} {h : Nat} : ∀ m, (hls r (h + m)).drop m = hls r h
  | 0 => rfl
  | m + 1 => by
    show (hls r ((h + m) + 1)).drop (m + 1) = _
    simp only [hls, List.drop_succ_cons]
    exact hls_drop m
/-- how a sum stands: h held beyond the signs' own, c counted beyond what stands -/
def SJ (lo : Nat) (h c : Int) (f : IT) : Prop :=
  (0 ≤ f 104 58) ∧ (0 ≤ f 104 60 ∧ f 104 60 ≤ 8) ∧ (0 ≤ f 104 61 ∧ f 104 61 ≤ 64) ∧ ((lo : Int) ≤ f 104 25) ∧ (∀ i, i < (f 104 58).toNat → f 133 i = 0 ∨ (2 ≤ f 133 i ∧ f 133 i ≤ 14)) ∧
  f 104 60 = cnt isZ (f 133) (f 104 58).toNat ∧ f 104 61 = f 104 25 + cnt isO (f 133) (f 104 58).toNat + c ∧ f 104 59 = cnt isB (f 133) (f 104 58).toNat + h ∧
  stV (fun i => f 130 (64 + i)) (fun i => f 131 (64 + i)) (fun i => f 132 (64 + i)) lo ((f 104 25).toNat - lo) ∧ hls (f 134) (f 104 59).toNat = (pst (fun i => f 130 (64 + i)) lo ((f 104 25).toNat - lo)).map (fun i : Nat => (i : Int))
theorem SJ.rng {lo : Nat} {h c : Int} {f : IT} (H : SJ lo h c f) (hc : 0 ≤ c) : (0 ≤ f 104 25 ∧ f 104 25 + c ≤ 64) ∧ (0 ≤ f 104 58 ∧ f 104 58 ≤ 72) ∧ (h ≤ f 104 59 ∧ f 104 59 ≤ 64 + h) := by
  obtain ⟨s1, s2, s3, s4, s5, s6, s7, s8, -⟩ := H
  have c1 := cnt_zo (r := f 133) (f 104 58).toNat
  have c2 := cnt_rng (P := isO) (r := f 133) (f 104 58).toNat
  have c3 := cnt_rng (P := isB) (r := f 133) (f 104 58).toNat
  omega
/-- growing one: a leaf, or a sign with what it takes -/
theorem SJ.grw {lo : Nat} {h : Int} {f : IT} (H : SJ lo h 1 f) {k a b : Int} (hk : 0 ≤ k ∧ k ≤ 14) {m : Nat} (hm : m = if k ≤ 1 then 0 else if k = 2 then 1 else 2) (hH : (m : Int) ≤ f 104 59) (h1 : k = 0 → 0 ≤ a ∧ a ≤ 9999) (h2 : k = 1 → 0 ≤ a ∧ a ≤ 7) (h3 : k = 2 → ∃ t, hls (f 134) (f 104 59).toNat = a :: t) (h4 : 3 ≤ k → ∃ t, hls (f 134) (f 104 59).toNat = b :: a :: t) :
    SJ lo (h + 1 - m) 0 (grwF k a b (u2 f 104 59 (f 104 59 - m))) := by
  obtain ⟨s1, s2, s3, s4, s5, s6, s7, s8, s9, s10⟩ := H
  obtain ⟨n, hn⟩ : ∃ n : Nat, f 104 25 = (lo : Int) + n := ⟨(f 104 25 - lo).toNat, by omega⟩
  obtain ⟨q, hq⟩ : ∃ q : Nat, f 104 59 = (q : Int) + m := ⟨(f 104 59 - m).toNat, by omega⟩
  have G : ∀ x y, grwF k a b (u2 f 104 59 (f 104 59 - m)) x y = if x = 104 ∧ y = 25 then (lo : Int) + n + 1 else if x = 104 ∧ y = 59 then (q : Int) + 1 else if x = 134 ∧ y = q then (lo : Int) + n else if x = 132 ∧ y = 64 + (lo + n) then b else if x = 131 ∧ y = 64 + (lo + n) then a else if x = 130 ∧ y = 64 + (lo + n) then k else f x y := fun x y => by
    unfold grwF
    have e1 : u2 f 104 59 (f 104 59 - m) 104 25 = (lo : Int) + n := (u2_o (by omega)).trans hn
    have e2 : u2 f 104 59 (f 104 59 - m) 104 59 = (q : Int) := by rw [u2_s]; omega
    rw [e1, e2, show ((lo : Int) + n).toNat = lo + n by omega, Int.toNat_natCast]
    simp only [u2]
    by_cases c59 : x = 104 ∧ y = 59
    · simp [c59]
    · simp [c59]
  generalize grwF k a b (u2 f 104 59 (f 104 59 - m)) = F at G
  have g58 : F 104 58 = f 104 58 := by rw [G]; simp
  have g60 : F 104 60 = f 104 60 := by rw [G]; simp
  have g61 : F 104 61 = f 104 61 := by rw [G]; simp
  have g25 : F 104 25 = (lo : Int) + n + 1 := by rw [G]; simp
  have g59 : F 104 59 = (q : Int) + 1 := by rw [G]; simp
  have g133 : F 133 = f 133 := funext (fun y => by rw [G]; simp)
  have lowK : ∀ i, i < n → f 130 (64 + (lo + i)) = F 130 (64 + (lo + i)) ∧ f 131 (64 + (lo + i)) = F 131 (64 + (lo + i)) ∧ f 132 (64 + (lo + i)) = F 132 (64 + (lo + i)) := fun i hi => by
    refine ⟨?_, ?_, ?_⟩ <;> (rw [G]; simp [show ¬ i = n by omega])
  have pk := pst_cg (K := fun i => f 130 (64 + i)) (K' := fun i => F 130 (64 + i)) (lo := lo) n (fun i hi => (lowK i hi).1)
  have topK : F 130 (64 + (lo + n)) = k := by rw [G]; simp
  have topP : F 131 (64 + (lo + n)) = a := by rw [G]; simp
  have topO : F 132 (64 + (lo + n)) = b := by rw [G]; simp
  have t25 : (f 104 25).toNat - lo = n := by omega
  have t59 : (f 104 59).toNat = q + m := by omega
  rw [t25, t59] at s10
  rw [t25] at s9
  rw [t59] at h3 h4
  have hlq : hls (F 134) (q + 1) = ((lo : Int) + n) :: hls (f 134) q := by
    simp only [hls]
    rw [hls_cg q (r := F 134) (r' := f 134) (fun i hi => by rw [G]; simp [show ¬ i = q by omega])]
    congr 1
    rw [G]; simp
  have hld : hls (f 134) q = ((pst (fun i => f 130 (64 + i)) lo n).map (fun i : Nat => (i : Int))).drop m := by rw [← s10, hls_drop]
  have pnew : pst (fun i => F 130 (64 + i)) lo (n + 1) = (lo + n) :: (pst (fun i => f 130 (64 + i)) lo n).drop m := by
    simp only [pst, topK, ← pk]
    rw [hm]
    (repeat' split) <;> rfl
  unfold SJ
  rw [g58, g60, g61, g25, g59, g133, show ((lo : Int) + n + 1).toNat - lo = n + 1 by omega, show ((q : Int) + 1).toNat = q + 1 by omega]
  refine ⟨s1, s2, s3, by omega, s5, s6, by omega, by omega, ?_, ?_⟩
  · simp only [stV]
    rw [topK, topP, topO, ← pk]
    refine ⟨stV_cg n lowK s9, hk, h1, h2, fun h => ?_, fun h => ?_⟩
    · obtain ⟨t, ht⟩ := h3 h
      rw [s10] at ht
      cases hp : pst (fun i => f 130 (64 + i)) lo n with
      | nil => rw [hp] at ht; cases ht
      | cons x s => rw [hp] at ht; simp at ht; exact ⟨x, s, rfl, ht.1.symm⟩
    · obtain ⟨t, ht⟩ := h4 h
      rw [s10] at ht
      cases hp : pst (fun i => f 130 (64 + i)) lo n with
      | nil => rw [hp] at ht; cases ht
      | cons x s =>
        cases s with
        | nil => rw [hp] at ht; simp at ht
        | cons y s' => rw [hp] at ht; simp at ht; exact ⟨x, y, s', rfl, ht.2.1.symm, ht.1.symm⟩
  · rw [hlq, pnew, List.map_cons, List.map_drop, ← hld]
    congr 1
    try omega
/-- one sign bound -/
def bnd1 (f : IT) : IT := if f 133 (f 104 58 - 1).toNat = 2 then grwF 2 (drpV (u2 f 104 58 (f 104 58 - 1))) (-1) (drpF (u2 f 104 58 (f 104 58 - 1))) else grwF (f 133 (f 104 58 - 1).toNat) (drpV (drpF (u2 f 104 58 (f 104 58 - 1)))) (drpV (u2 f 104 58 (f 104 58 - 1))) (drpF (drpF (u2 f 104 58 (f 104 58 - 1))))
theorem SJ.pop {lo : Nat} {f : IT} (H : SJ lo 1 0 f) (hW : 0 < f 104 58) (hk : f 133 (f 104 58 - 1).toNat ≠ 0) : SJ lo 1 0 (bnd1 f) ∧ bnd1 f 104 58 = f 104 58 - 1 ∧ bnd1 f 133 = f 133 := by
  have H0 := H
  obtain ⟨s1, s2, s3, s4, s5, s6, s7, s8, s9, s10⟩ := H
  obtain ⟨w, hw⟩ : ∃ w : Nat, f 104 58 = (w : Int) + 1 := ⟨(f 104 58 - 1).toNat, by omega⟩
  have ew : (f 104 58 - 1).toNat = w := by omega
  have ew2 : (f 104 58).toNat = w + 1 := by omega
  have hkk := s5 w (by omega)
  rw [ew2] at s5 s6 s7 s8
  simp only [cnt] at s6 s7 s8
  unfold bnd1
  rw [ew] at hk ⊢
  generalize ek : f 133 w = k at *
  have bz0 : isZ k = false := by unfold isZ; simpa using hk
  have bo1 : isO k = true := by unfold isO; simpa using hk
  rw [bz0, if_neg Bool.false_ne_true] at s6
  rw [bo1, if_pos rfl] at s7
  generalize eF : u2 f 104 58 (f 104 58 - 1) = F at *
  have o : ∀ x y, ¬ (x = 104 ∧ y = 58) → F x y = f x y := fun x y h => by rw [← eF]; exact u2_o h
  have F58 : F 104 58 = (w : Int) := by rw [← eF, u2_s]; omega
  have F133 : F 133 = f 133 := funext (fun y => o 133 y (by omega))
  have F134 : F 134 = f 134 := funext (fun y => o 134 y (by omega))
  have F59 : F 104 59 = f 104 59 := o 104 59 (by omega)
  have F25 : F 104 25 = f 104 25 := o 104 25 (by omega)
  have cb := cnt_rng (P := isB) (r := f 133) w
  have HF : SJ lo (if isB k = true then 2 else 1) 1 F := by
    unfold SJ
    rw [F58, F133, F134, F59, F25, o 104 60 (by omega), o 104 61 (by omega), Int.toNat_natCast]
    refine ⟨by omega, s2, s3, s4, fun i hi => s5 i (by omega), by omega, by omega, by split at s8 <;> rename_i hb <;> simp [hb] <;> omega, ?_, ?_⟩
    · exact stV_cg _ (fun i hi => ⟨(o 130 _ (by omega)).symm, (o 131 _ (by omega)).symm, (o 132 _ (by omega)).symm⟩) s9
    · rw [s10, pst_cg (K := fun i => f 130 (64 + i)) (K' := fun i => F 130 (64 + i)) _ (fun i hi => (o 130 _ (by omega)).symm)]
  by_cases e2 : k = 2
  · rw [if_pos e2]
    subst e2
    have hb : isB 2 = false := rfl
    rw [hb, if_neg Bool.false_ne_true] at HF s8
    obtain ⟨q, hq⟩ : ∃ q : Nat, f 104 59 = (q : Int) + 1 := ⟨(f 104 59 - 1).toNat, by omega⟩
    have key := HF.grw (k := 2) (a := drpV F) (b := -1) (by omega) (m := 1) rfl (by omega) (fun h => by omega) (fun h => by omega) (fun _ => ⟨hls (F 134) q, by unfold drpV; rw [F59, hq, show ((q : Int) + 1 - 1).toNat = q by omega, show ((q : Int) + 1).toNat = q + 1 by omega]; rfl⟩) (fun h => by omega)
    refine ⟨key, ?_, ?_⟩
    · unfold grwF drpF; simp only [u2]; simp; omega
    · funext y; unfold grwF drpF; simp only [u2]; simp; rw [F133]
  · rw [if_neg e2]
    have hb : isB k = true := by unfold isB; simp; omega
    rw [hb, if_pos rfl] at HF s8
    obtain ⟨q, hq⟩ : ∃ q : Nat, f 104 59 = (q : Int) + 2 := ⟨(f 104 59 - 2).toNat, by omega⟩
    have edr : drpF (drpF F) = u2 F 104 59 (F 104 59 - (2 : Nat)) := by
      unfold drpF
      rw [u2_s, u2_u2]
      congr 1
      omega
    have ev : drpV (drpF F) = f 134 q := by
      unfold drpV drpF
      rw [u2_s, u2_o (by omega), F134, F59, hq]
      congr 1
      omega
    have ev2 : drpV F = f 134 (q + 1) := by
      unfold drpV
      rw [F134, F59, hq]
      congr 1
      omega
    have key := HF.grw (k := k) (a := drpV (drpF F)) (b := drpV F) (by omega) (m := 2) (by rw [if_neg (by omega), if_neg e2]) (by omega) (fun h => by omega) (fun h => by omega) (fun h => by omega) (fun _ => ⟨hls (F 134) q, by rw [ev, ev2, F59, hq, show ((q : Int) + 2).toNat = q + 1 + 1 by omega]; simp only [hls]; rw [F134]⟩)
    rw [edr]
    refine ⟨key, ?_, ?_⟩
    · unfold grwF; simp only [u2]; simp; omega
    · funext y; unfold grwF; simp only [u2]; simp; rw [F133]

