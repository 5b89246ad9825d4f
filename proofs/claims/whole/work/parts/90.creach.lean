/-! one more state reached -/
def cntz (G : Nat → Int) : Nat → Nat
  | 0 => 0
  | n + 1 => cntz G n + (if G n ≠ 0 then 1 else 0)
theorem cntz_cg {G G' : Nat → Int} : ∀ n, (∀ j, j < n → (G' j ≠ 0 ↔ G j ≠ 0)) → cntz G' n = cntz G n
  | 0, _ => rfl
  | n + 1, h => by
    simp only [cntz]
    rw [cntz_cg n (fun j hj => h j (by omega))]
    have := h n (by omega)
    by_cases e : G n = 0
    · have e' : ¬ G' n ≠ 0 := fun q => (this.mp q) e
      rw [if_neg e', if_neg (fun q => q e)]
    · rw [if_pos e, if_pos (this.mpr e)]
theorem cntz_up {G G' : Nat → Int} {s : Nat} (h0 : G s = 0) (h1 : G' s ≠ 0) (ho : ∀ j, j ≠ s → G' j = G j) : ∀ n, cntz G' n = cntz G n + (if s < n then 1 else 0)
  | 0 => by simp [cntz]
  | n + 1 => by
    simp only [cntz]
    rw [cntz_up h0 h1 ho n]
    by_cases e : n = s
    · subst e
      rw [if_pos h1, if_neg (by simp [h0]), if_neg (by omega), if_pos (by omega)]
    · rw [ho n e]
      split <;> split <;> split <;> omega
theorem cntz_le {G : Nat → Int} : ∀ n, cntz G n ≤ n
  | 0 => by simp [cntz]
  | n + 1 => by have := cntz_le (G := G) n; simp only [cntz]; split <;> omega
theorem cntz_lt {G : Nat → Int} {s : Nat} (h0 : G s = 0) : ∀ n, s < n → cntz G n < n
  | 0, h => by omega
  | n + 1, h => by
    simp only [cntz]
    by_cases e : n = s
    · subst e
      have := cntz_le (G := G) n
      rw [if_neg (by simp [h0])]
      omega
    · have := cntz_lt h0 n (by omega)
      split <;> omega
def SWp (ρ : RT) (wA wB rA rB : Nat) : Prop := (ρ 66 2 = some wA ∧ ρ 66 3 = some wB ∧ ρ 66 4 = some rA ∧ ρ 66 5 = some rB) ∧ (wA = 68 ∧ wB = 69 ∨ wA = 69 ∧ wB = 68) ∧ (rA = 70 ∧ rB = 71 ∨ rA = 71 ∧ rB = 70)
theorem SWp.kd {ρ : RT} {wA wB rA rB : Nat} (h : SWp ρ wA wB rA rB) : kd wA = (14, 2501) ∧ kd wB = (14, 2501) ∧ kd rA = (13, 2501) ∧ kd rB = (13, 2501) := by
  obtain ⟨-, h1, h2⟩ := h
  rcases h1 with ⟨rfl, rfl⟩ | ⟨rfl, rfl⟩ <;> rcases h2 with ⟨rfl, rfl⟩ | ⟨rfl, rfl⟩ <;> exact ⟨rfl, rfl, rfl, rfl⟩
/-- the states reached next -/
def NX (T : TT) (c : CC) (hc q : Int) (st k rB wB ns : Nat) (f : IT) (g : JT) : Prop := (∀ j, j < 2501 → g wB j ≠ 0 → Pf T c hc q st (k + 1) j (g wB j) ∧ ∃ i, i < ns ∧ f rB i = (j : Int)) ∧ (∀ i, i < ns → ∃ j : Nat, j < 2501 ∧ f rB i = (j : Int) ∧ g wB j ≠ 0) ∧ ns = cntz (g wB) 2501 ∧ ∀ i i', i < ns → i' < ns → f rB i = f rB i' → i = i'
section REACH
variable {T : TT} {c : CC} {hc q : Int} {st : Nat} {ρ : RT} {f : IT} {g : JT} {wA wB rA rB : Nat}
theorem c_reach (hρ : Fx ρ) (hS : SWp ρ wA wB rA rB) {k s W t p ns : Nat} (hs : s < 2501) (hW : W < 1099511627776) (hd : W % 16777216 < 1048576) (ht : t ≤ 1980) (hp : 1 ≤ p ∧ p ≤ 9) (h9 : f 67 9 = (t : Int)) (h7 : f 66 7 = (ns : Int)) (hPf : Pf T c hc q st (k + 1) s (ext (t : Int) (p : Int) (W : Int))) (hN : NX T c hc q st k rB wB ns f g) (hr : ∀ j, j < 2501 → rl (g wB j)) :
    C_X4_reach [.ref 66, .int (iz (s : Int)), .long (lz (W : Int)), .int (iz (p : Int))] ρ f g (fun r ρ' f' g' => r = none ∧ ρ' = ρ ∧ (∀ a j, a ≠ rB → ¬ (a = 66 ∧ j = 7) → f' a j = f a j) ∧ (∀ a, a ≠ wB → g' a = g a) ∧ (∃ ns' : Nat, f' 66 7 = (ns' : Int) ∧ NX T c hc q st k rB wB ns' f' g') ∧ (g' wB s ≠ 0 ∧ g' wB s ≤ ext (t : Int) (p : Int) (W : Int)) ∧ (∀ j, g wB j ≠ 0 → g' wB j ≠ 0 ∧ g' wB j ≤ g wB j) ∧ ∀ j, j < 2501 → rl (g' wB j)) := by
  obtain ⟨xb1, xb2, xb3, xb4, xb5, xb6⟩ := ext_bits hW hd ht hp
  obtain ⟨kA, kB, kC, kD⟩ := hS.kd
  obtain ⟨⟨s2, s3, s4, s5⟩, sw1, sw2⟩ := hS
  obtain ⟨n1, n2, n3, n4⟩ := hN
  have hE : 1 ≤ ext (t : Int) (p : Int) (W : Int) ∧ rl (ext (t : Int) (p : Int) (W : Int)) := by unfold ext rl; omega
  generalize eE : ext (t : Int) (p : Int) (W : Int) = E at *
  have hrs := hr s hs
  have esum : ((W / 16777216 : Nat) : Int) + (t : Int) = ((W / 16777216 + t : Nat) : Int) := by omega
  refine Ct.ofV (by decide) rfl (Nat.le_of_ble_eq_true rfl) ?_
  have hns : g wB s = 0 → ns < 2501 := fun h0 => by rw [n3]; exact cntz_lt h0 2501 hs
  have X : V_X4_reach (fun r ρ' f' g' => r = none ∧ ρ' = ρ ∧ (∀ a j, a ≠ rB → ¬ (a = 66 ∧ j = 7) → f' a j = f a j) ∧ (∀ a, a ≠ wB → g' a = g a) ∧ (∃ ns' : Nat, f' 66 7 = (ns' : Int) ∧ NX T c hc q st k rB wB ns' f' g') ∧ (g' wB s ≠ 0 ∧ g' wB s ≤ E) ∧ (∀ j, g wB j ≠ 0 → g' wB j ≠ 0 ∧ g' wB j ≤ g wB j) ∧ ∀ j, j < 2501 → rl (g' wB j)) 50 [.ref 66, .int (iz (s : Int)), .long (lz (W : Int)), .null, .int (iz (p : Int)), .null, .null, .null, .null, .long (lz E), .null] [] ρ f g := by
    by_cases z : g wB s = 0
    · have hlt := hns z
      have fin1 : ∃ ns' : Nat, u2 (u2 f rB ns (s : Int)) 66 7 ((ns : Int) + 1) 66 7 = (ns' : Int) ∧ NX T c hc q st k rB wB ns' (u2 (u2 f rB ns (s : Int)) 66 7 ((ns : Int) + 1)) (u2 g wB s E) := by
        refine ⟨ns + 1, by rw [u2_s]; omega, fun j hj hne => ?_, fun i hi => ?_, ?_, fun i i' hi hi' hii => ?_⟩
        · by_cases e : j = s
          · rw [e, u2_s]
            exact ⟨hPf, ns, by omega, by rw [u2_o (by omega), u2_s]⟩
          · rw [u2_o (by omega)] at hne ⊢
            obtain ⟨q1, i, q2, q3⟩ := n1 j hj hne
            exact ⟨q1, i, by omega, by rw [u2_o (by omega), u2_o (by omega)]; exact q3⟩
        · by_cases e : i = ns
          · refine ⟨s, hs, by rw [e, u2_o (by omega), u2_s], by rw [u2_s]; omega⟩
          · obtain ⟨j, q1, q2, q3⟩ := n2 i (by omega)
            refine ⟨j, q1, by rw [u2_o (by omega), u2_o (by omega)]; exact q2, ?_⟩
            by_cases e2 : j = s
            · rw [e2, u2_s]; omega
            · rw [u2_o (by omega)]; exact q3
        · rw [cntz_up z (by rw [u2_s]; omega) (fun j hj => u2_o (by omega)) 2501, if_pos hs, ← n3]
        · rw [u2_o (by omega), u2_o (show ¬ (rB = 66 ∧ i' = 7) by omega)] at hii
          by_cases e1 : i = ns <;> by_cases e2 : i' = ns
          · omega
          · rw [e1, u2_s, u2_o (by omega)] at hii
            obtain ⟨j, r1, r2, r3⟩ := n2 i' (by omega)
            exact absurd (by rw [show j = s by omega] at r3; exact z) (by rw [show s = j by omega]; exact r3)
          · rw [e2, u2_s, u2_o (by omega)] at hii
            obtain ⟨j, r1, r2, r3⟩ := n2 i (by omega)
            exact absurd (by rw [show j = s by omega] at r3; exact z) (by rw [show s = j by omega]; exact r3)
          · rw [u2_o (by omega), u2_o (by omega)] at hii
            exact n4 i i' (by omega) (by omega) hii
      refine V_al0n dX4_reach_50 ?_
      refine V_getR kk66 (by decide) fl_X4_22 s3 dX4_reach_51 ?_
      refine V_il1n dX4_reach_54 ?_
      refine V_lald (k := s) kB (kdlt kB (by decide)) (by first | rfl | omega) (by omega) (by first | decide | assumption | omega) z dX4_reach_55 ?_
      refine V_lconst (a := 0) dX4_reach_56 rfl ?_
      refine V_lif_ne (tgt := 102) dX4_reach_57 dX4_reach_58 rfl (by unfold rl; omega) (by unfold rl; omega) (fun b58 => ?_) (fun b58 => ?_)
      · exact absurd rfl b58
      · refine V_al0n dX4_reach_61 ?_
        refine V_getI kk66 (by decide) fl_X4_36 h7 dX4_reach_62 ?_
        refine V_sipush dX4_reach_65 rfl ?_
        refine V_icmp_ge (tgt := 102) dX4_reach_68 rfl (by unfold ri; omega) (by unfold ri; omega) (fun b68 => ?_) (fun b68 => ?_)
        · exfalso; omega
        · refine V_al0n dX4_reach_71 ?_
          refine V_getR kk66 (by decide) fl_X4_29 s5 dX4_reach_72 ?_
          refine V_al0n dX4_reach_75 ?_
          refine V_getI kk66 (by decide) fl_X4_36 h7 dX4_reach_76 ?_
          refine V_il1n dX4_reach_79 ?_
          refine V_iast (k := ns) kD (kdlt kD (by decide)) (by first | rfl | omega) (by omega) (by first | decide | assumption | omega) dX4_reach_80 ?_
          refine V_al0n dX4_reach_81 ?_
          refine V_dup dX4_reach_82 rfl ?_
          refine V_getI kk66 (by decide) fl_X4_36 (u2_n (by omega) h7) dX4_reach_83 ?_
          refine V_iconst dX4_reach_86 ?_
          refine V_iadd dX4_reach_87 ?_
          refine V_putI kk66 (by decide) fl_X4_36 rfl dX4_reach_88 ?_
          refine V_al0n dX4_reach_91 ?_
          refine V_getR kk66 (by decide) fl_X4_22 s3 dX4_reach_92 ?_
          refine V_il1n dX4_reach_95 ?_
          refine V_ll9 dX4_reach_96 ?_
          refine V_last (k := s) kB (kdlt kB (by decide)) (by first | rfl | omega) (by omega) (by first | decide | assumption | omega) dX4_reach_98 ?_
          refine V_goto (tgt := 122) dX4_reach_99 rfl ?_
          exact V_return rfl ⟨rfl, rfl, fun a j q1 q2 => by rw [u2_o q2, u2_o (by omega)], fun a q1 => by funext j; exact u2_o (by omega), fin1, by rw [u2_s]; omega, fun j hj => by rw [u2_o (fun e => hj (by rw [e.2]; exact z))]; exact ⟨hj, by omega⟩, fun j hj => by by_cases e : j = s; (rw [e, u2_s]; exact hE.2); (rw [u2_o (by omega)]; exact hr j hj)⟩ dX4_reach_122
    · have same : E < g wB s → ∃ ns' : Nat, f 66 7 = (ns' : Int) ∧ NX T c hc q st k rB wB ns' f (u2 g wB s E) := fun hlt => by
        refine ⟨ns, h7, fun j hj hne => ?_, fun i hi => ?_, ?_, n4⟩
        · by_cases e : j = s
          · rw [e, u2_s]
            obtain ⟨q1, q2⟩ := n1 s hs z
            exact ⟨hPf, q2⟩
          · rw [u2_o (by omega)] at hne ⊢
            exact n1 j hj hne
        · obtain ⟨j, q1, q2, q3⟩ := n2 i hi
          refine ⟨j, q1, q2, ?_⟩
          by_cases e2 : j = s
          · rw [e2, u2_s]; omega
          · rw [u2_o (by omega)]; exact q3
        · rw [n3]
          refine (cntz_cg 2501 (fun j hj => ?_)).symm
          by_cases e : j = s
          · rw [e, u2_s]; exact ⟨fun _ => z, fun _ => by omega⟩
          · rw [u2_o (by omega)]
      refine V_al0n dX4_reach_50 ?_
      refine V_getR kk66 (by decide) fl_X4_22 s3 dX4_reach_51 ?_
      refine V_il1n dX4_reach_54 ?_
      refine V_lald (k := s) kB (kdlt kB (by decide)) (by first | rfl | omega) (by omega) (by first | decide | assumption | omega) rfl dX4_reach_55 ?_
      refine V_lconst (a := 0) dX4_reach_56 rfl ?_
      refine V_lif_ne (tgt := 102) dX4_reach_57 dX4_reach_58 rfl hrs (by unfold rl; omega) (fun b58 => ?_) (fun b58 => ?_)
      · refine V_ll9 dX4_reach_102 ?_
        refine V_al0n dX4_reach_104 ?_
        refine V_getR kk66 (by decide) fl_X4_22 s3 dX4_reach_105 ?_
        refine V_il1n dX4_reach_108 ?_
        refine V_lald (k := s) kB (kdlt kB (by decide)) (by first | rfl | omega) (by omega) (by first | decide | assumption | omega) rfl dX4_reach_109 ?_
        refine V_lif_ge (tgt := 122) dX4_reach_110 dX4_reach_111 rfl hE.2 hrs (fun b111 => ?_) (fun b111 => ?_)
        · exact V_return rfl (by first | exact ⟨rfl, rfl, fun _ _ _ _ => rfl, fun _ _ => rfl, ⟨ns, h7, n1, n2, n3, n4⟩, ⟨z, by omega⟩, fun j hj => ⟨hj, by omega⟩, hr⟩ | exact ⟨rfl, rfl, fun a j q1 q2 => rfl, fun a q1 => by funext j; exact u2_o (by omega), same (by omega), by rw [u2_s]; omega, fun j hj => by by_cases e : j = s; (rw [e, u2_s]; omega); (rw [u2_o (by omega)]; exact ⟨hj, by omega⟩), fun j hj => by by_cases e : j = s; (rw [e, u2_s]; exact hE.2); (rw [u2_o (by omega)]; exact hr j hj)⟩) dX4_reach_122
        · refine V_al0n dX4_reach_114 ?_
          refine V_getR kk66 (by decide) fl_X4_22 s3 dX4_reach_115 ?_
          refine V_il1n dX4_reach_118 ?_
          refine V_ll9 dX4_reach_119 ?_
          refine V_last (k := s) kB (kdlt kB (by decide)) (by first | rfl | omega) (by omega) (by first | decide | assumption | omega) dX4_reach_121 ?_
          exact V_return rfl (by first | exact ⟨rfl, rfl, fun _ _ _ _ => rfl, fun _ _ => rfl, ⟨ns, h7, n1, n2, n3, n4⟩, ⟨z, by omega⟩, fun j hj => ⟨hj, by omega⟩, hr⟩ | exact ⟨rfl, rfl, fun a j q1 q2 => rfl, fun a q1 => by funext j; exact u2_o (by omega), same (by omega), by rw [u2_s]; omega, fun j hj => by by_cases e : j = s; (rw [e, u2_s]; omega); (rw [u2_o (by omega)]; exact ⟨hj, by omega⟩), fun j hj => by by_cases e : j = s; (rw [e, u2_s]; exact hE.2); (rw [u2_o (by omega)]; exact hr j hj)⟩) dX4_reach_122
      · exact absurd b58 z
  refine V_il1n dX4_reach_0 ?_
  refine V_if_lt (tgt := 11) dX4_reach_1 rfl (by unfold ri; omega) (fun b1 => ?_) (fun b1 => ?_)
  · exfalso; omega
  · refine V_il1n dX4_reach_4 ?_
    refine V_sipush dX4_reach_5 rfl ?_
    refine V_icmp_lt (tgt := 12) dX4_reach_8 rfl (by unfold ri; omega) (by unfold ri; omega) (fun b8 => ?_) (fun b8 => ?_)
    · refine V_ll2n dX4_reach_12 ?_
      refine V_bipush dX4_reach_13 rfl ?_
      refine V_lshr dX4_reach_15 xb1 ?_
      refine V_al0n dX4_reach_16 ?_
      refine V_getR kk66 (by decide) fl_X4_14 (fx_66_1 hρ) dX4_reach_17 ?_
      refine V_getI kk67 (by decide) fl_X4_121 h9 dX4_reach_20 ?_
      refine V_i2l dX4_reach_23 (by unfold ri; omega) ?_
      refine V_ladd dX4_reach_24 ?_
      rw [esum]
      refine V_ls5 dX4_reach_25 (by decide) rfl ?_
      refine V_ll2n dX4_reach_27 ?_
      refine V_iconst dX4_reach_28 ?_
      refine V_lshl dX4_reach_29 xb2 ?_
      refine V_ldc2_w (a := 16777215) kl_X4_124 rfl dX4_reach_30 ?_
      refine V_land dX4_reach_33 xb3 ?_
      refine V_il4 dX4_reach_34 ?_
      refine V_i2l dX4_reach_36 (by unfold ri; omega) ?_
      refine V_lor dX4_reach_37 xb4 ?_
      refine V_ls7 dX4_reach_38 (by decide) rfl ?_
      refine V_ll5 dX4_reach_40 ?_
      refine V_bipush dX4_reach_42 rfl ?_
      refine V_lshl dX4_reach_44 xb5 ?_
      refine V_ll7 dX4_reach_45 ?_
      refine V_lor dX4_reach_47 xb6 ?_
      refine V_ls9 dX4_reach_48 (by decide) rfl ?_
      exact V_weak (by repeat (first | exact wk_n | refine wk_c (Or.inr rfl) ?_ | refine wk_c (Or.inl rfl) ?_)) X
    · exfalso; omega
end REACH

