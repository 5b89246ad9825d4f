theorem iz_and255 (a : Int) : iz a &&& iz 255 = iz (a % 256) := by
  rw [iz_and]
  congr 1
  have e : U a &&& U 255 = U a % 256 := by
    show U a &&& (2 ^ 8 - 1) = _
    rw [Nat.and_two_pow_sub_one_eq_mod]
  rw [e]
  unfold U
  omega
theorem byt_rng (w : Int) (j : Nat) : 0 ≤ byt w j ∧ byt w j ≤ 255 := by unfold byt; omega
theorem w_mfeed {Q : QT} {ρ : RT} {f : IT} {g : JT} (hρ : Fx ρ) {a b c d e : Int} (ra : ri a) (rb : ri b) (rc : ri c) (rd : ri d) (re : ri e) {s : Nat} (hs : s + 20 ≤ 700) (h1 : f 104 1 = (s : Int)) (hQ : Q (some (.int (iz ((s : Int) + 20)))) ρ (u2 (fdR a b c d e s 20 105 f) 104 1 ((s : Int) + 20)) g) (i : Nat) (hi : i ≤ 20) :
    V_X12_feed Q 23 [.ref 104, .int (iz a), .int (iz b), .int (iz c), .int (iz d), .int (iz e), .int (iz (i : Int)), .null] [] ρ (fdR a b c d e s i 105 f) g := by
  have e1 : fdR a b c d e s i 105 f 104 1 = (s : Int) := by unfold fdR; rw [if_neg (by omega)]; exact h1
  by_cases ei : i = 20
  · subst ei
    refine V_il6 dX12_feed_23 ?_
    refine V_bipush dX12_feed_25 rfl ?_
    refine V_icmp_ge (tgt := 113) dX12_feed_27 rfl (by first | assumption | (unfold ri at *; omega)) (by first | assumption | (unfold ri at *; omega)) (fun b27 => ?_) (fun b27 => ?_)
    · refine V_al0n dX12_feed_113 ?_
      refine V_dup dX12_feed_114 rfl ?_
      refine V_getI kk104 (by decide) fl_X12_157 e1 dX12_feed_115 ?_
      refine V_bipush dX12_feed_118 rfl ?_
      refine V_iadd dX12_feed_120 ?_
      refine V_putI kk104 (by decide) fl_X12_157 rfl dX12_feed_121 ?_
      refine V_al0n dX12_feed_124 ?_
      refine V_getI kk104 (by decide) fl_X12_157 u2_s dX12_feed_125 ?_
      exact V_ireturn rfl hQ dX12_feed_128
    · exfalso; omega
  · have X : ∀ w, ri w → w = fdw a b c d e (i / 4) → V_X12_feed Q 76 [.ref 104, .int (iz a), .int (iz b), .int (iz c), .int (iz d), .int (iz e), .int (iz (i : Int)), .null] [.int (iz w)] ρ (fdR a b c d e s i 105 f) g := fun w rw_ hw => by
      refine V_is7 dX12_feed_76 (by decide) rfl ?_
      refine V_al0n dX12_feed_78 ?_
      refine V_getR kk104 (by decide) fl_X12_7 (fx_104_0 hρ) dX12_feed_79 ?_
      refine V_al0n dX12_feed_82 ?_
      refine V_getI kk104 (by decide) fl_X12_157 e1 dX12_feed_83 ?_
      refine V_il6 dX12_feed_86 ?_
      refine V_iadd dX12_feed_88 ?_
      refine V_il7 dX12_feed_89 ?_
      refine V_bipush dX12_feed_91 rfl ?_
      refine V_bipush dX12_feed_93 rfl ?_
      refine V_il6 dX12_feed_95 ?_
      refine V_iconst dX12_feed_97 ?_
      refine V_irem dX12_feed_98 (iz_ne (by unfold ri; omega) (by omega)) (iz_rem (by omega) (by omega) (by unfold ri; omega) (by unfold ri; omega)) ?_
      refine V_imul dX12_feed_99 ?_
      refine V_isub dX12_feed_100 ?_
      refine V_ishr dX12_feed_101 (iz_shrE (b := 24 - 8 * (i % 4)) (v := w / 2 ^ (24 - 8 * (i % 4))) rw_ (by omega) (by omega) rfl) ?_
      refine V_sipush dX12_feed_102 rfl ?_
      refine V_iand dX12_feed_105 (iz_and255 _) ?_
      refine V_iast (k := (s + i)) kk105 (by decide) (by first | rfl | omega) (by omega) (by first | decide | assumption | omega) dX12_feed_106 ?_
      refine V_inc6 dX12_feed_107 (by decide) rfl ?_
      refine V_goto (tgt := 23) dX12_feed_110 rfl ?_
      have e : u2 (fdR a b c d e s i 105 f) 105 (s + i) (w / 2 ^ (24 - 8 * (i % 4)) % 256) = fdR a b c d e s (i + 1) 105 f := fdR_s (by rw [hw]; rfl)
      rw [e]
      exact V_weak (by repeat (first | exact wk_n | refine wk_c (Or.inr rfl) ?_ | refine wk_c (Or.inl rfl) ?_)) (w_mfeed hρ ra rb rc rd re hs h1 hQ (i + 1) (by omega))
    refine V_il6 dX12_feed_23 ?_
    refine V_bipush dX12_feed_25 rfl ?_
    refine V_icmp_ge (tgt := 113) dX12_feed_27 rfl (by first | assumption | (unfold ri at *; omega)) (by first | assumption | (unfold ri at *; omega)) (fun b27 => ?_) (fun b27 => ?_)
    · exfalso; omega
    · refine V_il6 dX12_feed_30 ?_
      refine V_iconst dX12_feed_32 ?_
      refine V_icmp_ge (tgt := 40) dX12_feed_33 rfl (by first | assumption | (unfold ri at *; omega)) (by first | assumption | (unfold ri at *; omega)) (fun b33 => ?_) (fun b33 => ?_)
      · refine V_il6 dX12_feed_40 ?_
        refine V_bipush dX12_feed_42 rfl ?_
        refine V_icmp_ge (tgt := 51) dX12_feed_44 rfl (by first | assumption | (unfold ri at *; omega)) (by first | assumption | (unfold ri at *; omega)) (fun b44 => ?_) (fun b44 => ?_)
        · refine V_il6 dX12_feed_51 ?_
          refine V_bipush dX12_feed_53 rfl ?_
          refine V_icmp_ge (tgt := 62) dX12_feed_55 rfl (by first | assumption | (unfold ri at *; omega)) (by first | assumption | (unfold ri at *; omega)) (fun b55 => ?_) (fun b55 => ?_)
          · refine V_il6 dX12_feed_62 ?_
            refine V_bipush dX12_feed_64 rfl ?_
            refine V_icmp_ge (tgt := 74) dX12_feed_66 rfl (by first | assumption | (unfold ri at *; omega)) (by first | assumption | (unfold ri at *; omega)) (fun b66 => ?_) (fun b66 => ?_)
            · refine V_il5 dX12_feed_74 ?_
              exact X _ (by assumption) (by unfold fdw; first | rw [if_pos (by omega)] | rw [if_neg (by omega), if_pos (by omega)] | rw [if_neg (by omega), if_neg (by omega), if_pos (by omega)] | rw [if_neg (by omega), if_neg (by omega), if_neg (by omega), if_pos (by omega)] | rw [if_neg (by omega), if_neg (by omega), if_neg (by omega), if_neg (by omega)])
            · refine V_il4 dX12_feed_69 ?_
              refine V_goto (tgt := 76) dX12_feed_71 rfl ?_
              exact X _ (by assumption) (by unfold fdw; first | rw [if_pos (by omega)] | rw [if_neg (by omega), if_pos (by omega)] | rw [if_neg (by omega), if_neg (by omega), if_pos (by omega)] | rw [if_neg (by omega), if_neg (by omega), if_neg (by omega), if_pos (by omega)] | rw [if_neg (by omega), if_neg (by omega), if_neg (by omega), if_neg (by omega)])
          · refine V_il3n dX12_feed_58 ?_
            refine V_goto (tgt := 76) dX12_feed_59 rfl ?_
            exact X _ (by assumption) (by unfold fdw; first | rw [if_pos (by omega)] | rw [if_neg (by omega), if_pos (by omega)] | rw [if_neg (by omega), if_neg (by omega), if_pos (by omega)] | rw [if_neg (by omega), if_neg (by omega), if_neg (by omega), if_pos (by omega)] | rw [if_neg (by omega), if_neg (by omega), if_neg (by omega), if_neg (by omega)])
        · refine V_il2n dX12_feed_47 ?_
          refine V_goto (tgt := 76) dX12_feed_48 rfl ?_
          exact X _ (by assumption) (by unfold fdw; first | rw [if_pos (by omega)] | rw [if_neg (by omega), if_pos (by omega)] | rw [if_neg (by omega), if_neg (by omega), if_pos (by omega)] | rw [if_neg (by omega), if_neg (by omega), if_neg (by omega), if_pos (by omega)] | rw [if_neg (by omega), if_neg (by omega), if_neg (by omega), if_neg (by omega)])
      · refine V_il1n dX12_feed_36 ?_
        refine V_goto (tgt := 76) dX12_feed_37 rfl ?_
        exact X _ (by assumption) (by unfold fdw; first | rw [if_pos (by omega)] | rw [if_neg (by omega), if_pos (by omega)] | rw [if_neg (by omega), if_neg (by omega), if_pos (by omega)] | rw [if_neg (by omega), if_neg (by omega), if_neg (by omega), if_pos (by omega)] | rw [if_neg (by omega), if_neg (by omega), if_neg (by omega), if_neg (by omega)])
termination_by 20 - i
def fdA (f : IT) : Int := if f 104 1 + 20 ≤ 700 then f 104 1 + 20 else -1
def fdF (a b c d e : Int) (f : IT) : IT := if f 104 1 + 20 ≤ 700 then u2 (fdR a b c d e (f 104 1).toNat 20 105 (u2 f 104 2 0)) 104 1 (f 104 1 + 20) else u2 f 104 2 0
theorem c_mfeed {ρ : RT} {f : IT} {g : JT} (hρ : Fx ρ) (h1 : 0 ≤ f 104 1 ∧ f 104 1 ≤ 700) {a b c d e : Int} (ra : ri a) (rb : ri b) (rc : ri c) (rd : ri d) (re : ri e) : C_X12_feed [.ref 104, .int (iz a), .int (iz b), .int (iz c), .int (iz d), .int (iz e)] ρ f g (fun r ρ' f' g' => r = some (.int (iz (fdA f))) ∧ ρ' = ρ ∧ f' = fdF a b c d e f ∧ g' = g) := by
  obtain ⟨s, hs⟩ : ∃ s : Nat, f 104 1 = (s : Int) := ⟨(f 104 1).toNat, by omega⟩
  unfold fdA fdF
  rw [hs, Int.toNat_natCast]
  refine Ct.ofV (by decide) rfl (Nat.le_of_ble_eq_true rfl) ?_
  refine V_al0n dX12_feed_0 ?_
  refine V_iconst dX12_feed_1 ?_
  refine V_putI kk104 (by decide) fl_X12_154 rfl dX12_feed_2 ?_
  refine V_al0n dX12_feed_5 ?_
  refine V_getI kk104 (by decide) fl_X12_157 (u2_n (by decide) hs) dX12_feed_6 ?_
  refine V_bipush dX12_feed_9 rfl ?_
  refine V_iadd dX12_feed_11 ?_
  refine V_sipush dX12_feed_12 rfl ?_
  refine V_icmp_le (tgt := 20) dX12_feed_15 rfl (by unfold ri; omega) (by unfold ri; omega) (fun b15 => ?_) (fun b15 => ?_)
  · refine V_iconst dX12_feed_20 ?_
    refine V_is6 dX12_feed_21 (by decide) rfl ?_
    have := w_mfeed (Q := fun r ρ' f' g' => r = some (.int (iz (if (s : Int) + 20 ≤ 700 then (s : Int) + 20 else -1))) ∧ ρ' = ρ ∧ f' = (if (s : Int) + 20 ≤ 700 then u2 (fdR a b c d e s 20 105 (u2 f 104 2 0)) 104 1 ((s : Int) + 20) else u2 f 104 2 0) ∧ g' = g) (f := u2 f 104 2 0) (g := g) hρ ra rb rc rd re (s := s) (by omega) (by rw [u2_o (by omega)]; exact hs) (by rw [if_pos (by omega), if_pos (by omega)]; exact ⟨rfl, rfl, rfl, rfl⟩) 0 (by omega)
    rw [fdR_0] at this
    exact this
  · refine V_iconst dX12_feed_18 ?_
    exact V_ireturn rfl (by rw [if_neg (by omega), if_neg (by omega)]; exact ⟨rfl, rfl, rfl, rfl⟩) dX12_feed_19

