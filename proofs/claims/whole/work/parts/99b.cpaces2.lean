section CPACES2
variable {T : TT} {b : Nat} {ρ : RT} {f : IT} {g : JT} {c : CC} {q : Int} {st : Nat}
theorem iz_and15 (a : Int) : iz a &&& iz 15 = iz (a % 16) := by
  rw [iz_and]
  congr 1
  have e : U a &&& U 15 = U a % 16 := by
    show U a &&& (2 ^ 4 - 1) = _
    rw [Nat.and_two_pow_sub_one_eq_mod]
  rw [e]
  unfold U
  omega
theorem p2_16 (n : Nat) : (2 : Int) ^ (4 * n) = 16 ^ n := by rw [Int.pow_mul]; rfl
theorem c_paceIn (hW : TW T b ρ) (hCt : CT T b f) (hC : CR c) {h : Nat} (hh : h < nHo T) (hst : st < 2501) (h0 : (vst T c (T 117 h) q (nLa T) 0 st).1 ≠ 99999) (h12 : g 66 12 = bwV T c (T 117 h) q st) {k : Nat} (hl : k < nLa T) :
    C_X4_paceIn [.ref 66, .int (iz (k : Int))] ρ f g (fun r ρ' f' g' => r = some (.int (iz (vst T c (T 117 h) q (nLa T - k) k (pth T c (T 117 h) q st k)).2)) ∧ ρ' = ρ ∧ f' = f ∧ g' = g) := by
  have hk := hW.2.2.2.2.1
  have hρ := hW.1
  have hb := hW.2.1
  have h6 := hk.la
  have e12 : T 104 (12 + 0) = (nLa T : Int) := h6.1
  obtain ⟨M, m0, m1, m2, m3⟩ := bw_digit hk hC hh hst h0 hl
  have hbw := bwV_sk hk hC hh (q := q) hst
  have hB0 : skA T c (T 117 h) q st ≠ -2 := by
    have := vst_rng hk hC hh (q := q) (nLa T) 0 st (by omega) hst
    unfold skA
    rw [if_neg h0]
    omega
  have hB : 0 ≤ bwV T c (T 117 h) q st ∧ bwV T c (T 117 h) q st < 1099511627776 := by omega
  generalize (vst T c (T 117 h) q (nLa T - k) k (pth T c (T 117 h) q st k)).2 = D at *
  generalize bwV T c (T 117 h) q st = B at *
  clear hbw hB0
  refine Ct.ofV (by decide) rfl (Nat.le_of_ble_eq_true rfl) ?_
  refine V_al0n dX4_paceIn_0 ?_
  refine V_getR kk66 (by decide) fl_X4_63 (fx_66_0 hρ) dX4_paceIn_1 ?_
  refine V_getR kk55 (by decide) fl_X4_73 hW.2.2.2.1 dX4_paceIn_4 ?_
  refine V_iconst dX4_paceIn_7 ?_
  refine V_callV (as := [_]) ml_X4_77 im_X7_size se_X7_size (kb_0 hb) (by decide) (kl_0 hb) dX4_paceIn_8 rfl rfl (by decide) (by decide) (Nat.le_of_ble_eq_true rfl) (by decide) (by decide) rfl (c_size hρ hb hCt (i := 0) (by omega)) ?_
  refine pq4 ?_
  refine V_iconst dX4_paceIn_11 ?_
  refine V_isub dX4_paceIn_12 ?_
  refine V_il1n dX4_paceIn_13 ?_
  refine V_isub dX4_paceIn_14 ?_
  refine V_is2n dX4_paceIn_15 (by decide) rfl ?_
  refine V_il2n dX4_paceIn_16 ?_
  refine V_if_lt (tgt := 37) dX4_paceIn_17 rfl (by unfold ri; omega) (fun b17 => ?_) (fun b17 => ?_)
  · exfalso; omega
  · refine V_il2n dX4_paceIn_20 ?_
    refine V_bipush dX4_paceIn_21 rfl ?_
    refine V_icmp_ge (tgt := 37) dX4_paceIn_23 rfl (by unfold ri; omega) (by unfold ri; omega) (fun b23 => ?_) (fun b23 => ?_)
    · exfalso; omega
    · refine V_al0n dX4_paceIn_26 ?_
      refine V_getJ kk66 (by decide) fl_X4_53 h12 dX4_paceIn_27 ?_
      refine V_ldc2_w (a := -1) kl_X4_51 rfl dX4_paceIn_30 ?_
      refine V_lif_ne (tgt := 40) dX4_paceIn_33 dX4_paceIn_34 rfl (by unfold rl; omega) (by unfold rl; omega) (fun b34 => ?_) (fun b34 => ?_)
      · refine V_al0n dX4_paceIn_40 ?_
        refine V_getJ kk66 (by decide) fl_X4_53 h12 dX4_paceIn_41 ?_
        refine V_iconst dX4_paceIn_44 ?_
        refine V_il2n dX4_paceIn_45 ?_
        refine V_imul dX4_paceIn_46 ?_
        refine V_lshr dX4_paceIn_47 (lz_shrE (b := 4 * (nLa T - 1 - k)) (v := M * 16 + D) (by unfold rl; omega) (by omega) (by omega) (by rw [p2_16]; exact m1)) ?_
        refine V_l2i dX4_paceIn_48 ?_
        refine V_bipush dX4_paceIn_49 rfl ?_
        refine V_iand dX4_paceIn_51 ((iz_and15 _).trans (congrArg iz (show (M * 16 + D) % 16 = D by omega))) ?_
        exact V_ireturn rfl ⟨rfl, rfl, rfl, rfl⟩ dX4_paceIn_52
      · exfalso; omega
end CPACES2

