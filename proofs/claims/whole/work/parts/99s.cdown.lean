section CDOWN
variable {T : TT} {b : Nat} {ρ : RT} {f : IT} {g : JT}
theorem c_down (hW : TW T b ρ) (hC : CT T b f) {h a s w : Int} (rh : ri h) (ra : ri a) (rs : ri s) (rw_ : ri w) :
    C_X11_down [.ref 0, .int (iz h), .int (iz a), .int (iz s), .int (iz w)] ρ f g (fun r ρ' f' g' => r = some (.long (lz (aDown T h a s w))) ∧ ρ' = ρ ∧ f' = f ∧ g' = g) := by
  have hk := hW.2.2.2.2.1
  have hρ := hW.1
  have hb := hW.2.1
  have h4 := hk.ju
  have e16 : T 104 (12 + 4) = (nJu T : Int) := h4.1
  have p16 : (2 : Int) ^ nJu T ≤ 16 ∧ 1 ≤ (2 : Int) ^ nJu T := by rcases (show nJu T = 0 ∨ nJu T = 1 ∨ nJu T = 2 ∨ nJu T = 3 ∨ nJu T = 4 by omega) with q | q | q | q | q <;> rw [q] <;> decide
  have hall := all_bits h4.2 ra
  obtain ⟨w1, ew1, rw1, hw1⟩ := iz_andE a (-1 - ((2 : Int) ^ nJu T - 1))
  obtain ⟨w2, ew2, rw2, hw2⟩ := iz_andE s (-1 - a)
  obtain ⟨AN, hAN⟩ : ∃ n : Nat, (2 : Int) ^ nJu T - 1 = (n : Int) := ⟨((2 : Int) ^ nJu T - 1).toNat, by omega⟩
  have ex1 : iz ((2 : Int) ^ nJu T - 1) ^^^ iz (-1) = iz (-1 - ((2 : Int) ^ nJu T - 1)) := by rw [hAN]; exact iz_m1x AN (by omega)
  have ex2 : 0 ≤ a ∧ a < 2 ^ nJu T → iz a ^^^ iz (-1) = iz (-1 - a) := fun z => by
    obtain ⟨aN, rfl⟩ : ∃ n : Nat, a = n := ⟨a.toNat, by omega⟩
    exact iz_m1x aN (by omega)
  have hsn : 0 ≤ a ∧ a < 2 ^ nJu T → w2 = 0 → 0 ≤ s := fun z z2 => sayO_nn rs (by omega) (hw2.mp z2)
  refine Ct.ofV (by decide) rfl (Nat.le_of_ble_eq_true rfl) ?_
  by_cases c : dwnO T h a s w = true
  · have c0_ := c
    unfold dwnO at c0_
    simp only [Bool.and_eq_true] at c0_
    obtain ⟨⟨⟨⟨c1, c2⟩, c3⟩, c4⟩, c5⟩ := c0_
    have d1 : 0 ≤ h ∧ h ≤ 100 := by unfold zin at c1; simpa using c1
    have d2 : 0 ≤ a ∧ a < 2 ^ nJu T := by simpa using c2
    have d3 : 0 ≤ s := by simpa using c3
    have d4 : U s &&& U (-1 - a) = 0 := by unfold sayO at c4; simpa using c4
    have d5 : 0 ≤ w ∧ w ≤ 1 := by unfold zin at c5; simpa using c5
    have hrg := dwn_rng hk (h := h) (a := a) (s := s) d1
    have ea : aDown T h a s w = (if dwnL T h a s = 0 then w else (if w = 0 then dwnW T h a s else dwnL T h a s) / ((Nat.gcd (dwnW T h a s).toNat (dwnL T h a s).toNat : Nat) : Int)) := by unfold aDown; rw [c, if_pos rfl]
    have hx : ∀ (x y : Nat), dwnW T h a s = x → dwnL T h a s = y → V_X11_down (fun r ρ' f' g' => r = some (.long (lz (aDown T h a s w))) ∧ ρ' = ρ ∧ f' = f ∧ g' = g) 83 [.ref 0, .int (iz h), .int (iz a), .int (iz s), .int (iz w), .int (iz ((2 : Int) ^ nJu T - 1)), .long (lz (x : Int)), .null, .long (lz (y : Int)), .null, .null, .null] [] ρ f g := fun x y ex ey => by
      rw [ex, ey] at ea hrg
      simp only [Int.toNat_natCast] at ea
      have hgl : 0 < x → 0 < Nat.gcd y x := fun hx => Nat.gcd_pos_of_pos_right y hx
      have hgx := Nat.gcd_le_right (m := y) (n := x)
      have fin : 0 < x → ∀ z : Nat, z ≤ 20000000000 → lz (z : Int) / lz ((Nat.gcd y x : Nat) : Int) = lz ((z : Int) / ((Nat.gcd x y : Nat) : Int)) := fun hx z hz => by
        have := hgl hx
        rw [Nat.gcd_comm x y]
        exact lz_div (by omega) (by omega) (by unfold rl; omega) (by unfold rl; have := hgx hx; omega)
      have hz0 : x = 0 → (if (y : Int) = 0 then w else (if w = 0 then (x : Int) else (y : Int)) / ((Nat.gcd x y : Nat) : Int)) = w := fun z => by
        subst z
        rw [Nat.gcd_zero_left]
        by_cases y0 : (y : Int) = 0
        · rw [if_pos y0]
        · rw [if_neg y0]
          rcases (show w = 0 ∨ w = 1 by omega) with e | e
          · rw [e]; simp
          · rw [e, if_neg (by omega), Int.ediv_self y0]
      refine V_ll6 dX11_down_83 ?_
      refine V_lconst (a := 0) dX11_down_85 rfl ?_
      refine V_lif_ne (tgt := 94) dX11_down_86 dX11_down_87 rfl (by unfold rl; omega) (by unfold rl; omega) (fun b87 => ?_) (fun b87 => ?_)
      · refine V_ll8 dX11_down_94 ?_
        refine V_ll6 dX11_down_96 ?_
        refine V_callS (as := [_, _]) ml_X11_389 sm_X11_commonDivisor dX11_down_98 rfl rfl (by decide) (by decide) (Nat.le_of_ble_eq_true rfl) (by decide) (by decide) rfl (c_comdiv (x := y) (y := x) (by omega) (by omega) (by omega)) ?_
        refine pq4 ?_
        refine V_ls10 dX11_down_101 (by decide) rfl ?_
        refine V_il4 dX11_down_103 ?_
        refine V_if_ne (tgt := 113) dX11_down_105 rfl rw_ (fun b105 => ?_) (fun b105 => ?_)
        · refine V_ll8 dX11_down_113 ?_
          refine V_ll10 dX11_down_115 ?_
          refine V_lconst (a := 0) dX11_down_117 rfl ?_
          refine V_lif_le (tgt := 127) dX11_down_118 dX11_down_119 rfl (by have := hgl (by omega); have := hgx (by omega); unfold rl; omega) (by unfold rl; omega) (fun b119 => ?_) (fun b119 => ?_)
          · have := hgl (by omega); exfalso; omega
          · refine V_ll10 dX11_down_122 ?_
            refine V_goto (tgt := 128) dX11_down_124 rfl ?_
            refine V_ldiv dX11_down_128 (lz_ne (by have := hgl (by omega); have := hgx (by omega); unfold rl; omega) (by have := hgl (by omega); omega)) (fin (by omega) _ (by omega)) ?_
            exact V_lreturn rfl ⟨by rw [ea, if_neg (by omega)]; first | rw [if_pos (by omega)] | rw [if_neg (by omega)], rfl, rfl, rfl⟩ dX11_down_129
        · refine V_ll6 dX11_down_108 ?_
          refine V_goto (tgt := 115) dX11_down_110 rfl ?_
          refine V_ll10 dX11_down_115 ?_
          refine V_lconst (a := 0) dX11_down_117 rfl ?_
          refine V_lif_le (tgt := 127) dX11_down_118 dX11_down_119 rfl (by have := hgl (by omega); have := hgx (by omega); unfold rl; omega) (by unfold rl; omega) (fun b119 => ?_) (fun b119 => ?_)
          · have := hgl (by omega); exfalso; omega
          · refine V_ll10 dX11_down_122 ?_
            refine V_goto (tgt := 128) dX11_down_124 rfl ?_
            refine V_ldiv dX11_down_128 (lz_ne (by have := hgl (by omega); have := hgx (by omega); unfold rl; omega) (by have := hgl (by omega); omega)) (fin (by omega) _ (by omega)) ?_
            exact V_lreturn rfl ⟨by rw [ea, if_neg (by omega)]; first | rw [if_pos (by omega)] | rw [if_neg (by omega)], rfl, rfl, rfl⟩ dX11_down_129
      · refine V_il4 dX11_down_90 ?_
        refine V_i2l dX11_down_92 rw_ ?_
        exact V_lreturn rfl ⟨by rw [ea, hz0 (by omega)], rfl, rfl, rfl⟩ dX11_down_93
    have hz := hx (dwnW T h a s).toNat (dwnL T h a s).toNat (by omega) (by omega)
    rw [Int.toNat_of_nonneg (by omega), Int.toNat_of_nonneg (by omega)] at hz
    refine V_iconst dX11_down_0 ?_
    refine V_al0n dX11_down_1 ?_
    refine V_getR kk0 (by decide) fl_X11_29 hW.2.2.1 dX11_down_2 ?_
    refine V_iconst dX11_down_5 ?_
    refine V_callV (as := [_]) ml_X11_271 im_X7_size se_X7_size (kb_0 hb) (by decide) (kl_0 hb) dX11_down_6 rfl rfl (by decide) (by decide) (Nat.le_of_ble_eq_true rfl) (by decide) (by decide) rfl (c_size hρ hb hC (i := 4) (by omega)) ?_
    refine pq4 ?_
    refine V_ishl dX11_down_9 (iz_shlE (b := nJu T) (v := 2 ^ nJu T) e16 (by omega) (by omega)) ?_
    refine V_iconst dX11_down_10 ?_
    refine V_isub dX11_down_11 ?_
    refine V_is5 dX11_down_12 (by decide) rfl ?_
    refine V_il1n dX11_down_14 ?_
    refine V_if_lt (tgt := 49) dX11_down_15 rfl rh (fun b15 => ?_) (fun b15 => ?_)
    · exfalso; omega
    · refine V_il1n dX11_down_18 ?_
      refine V_bipush dX11_down_19 rfl ?_
      refine V_icmp_gt (tgt := 49) dX11_down_21 rfl rh (by unfold ri; omega) (fun b21 => ?_) (fun b21 => ?_)
      · exfalso; omega
      · refine V_il2n dX11_down_24 ?_
        refine V_il5 dX11_down_25 ?_
        refine V_iconst dX11_down_27 ?_
        refine V_ixor dX11_down_28 ex1 ?_
        refine V_iand dX11_down_29 ew1 ?_
        refine V_if_ne (tgt := 49) dX11_down_30 rfl rw1 (fun b30 => ?_) (fun b30 => ?_)
        · exfalso; exact b30 (hw1.mpr (hall.mpr d2))
        · refine V_il3n dX11_down_33 ?_
          refine V_il2n dX11_down_34 ?_
          refine V_iconst dX11_down_35 ?_
          refine V_ixor dX11_down_36 (ex2 d2) ?_
          refine V_iand dX11_down_37 ew2 ?_
          refine V_if_ne (tgt := 49) dX11_down_38 rfl rw2 (fun b38 => ?_) (fun b38 => ?_)
          · exfalso; exact b38 (hw2.mpr d4)
          · refine V_il4 dX11_down_41 ?_
            refine V_callS (as := [_]) ml_X11_283 sm_X11_isPair dX11_down_43 rfl rfl (by decide) (by decide) (Nat.le_of_ble_eq_true rfl) (by decide) (by decide) rfl (c_isPair rw_) ?_
            refine pq4 ?_
            refine V_bf (tgt := 53) dX11_down_46 rfl (fun b46 => ?_) (fun b46 => ?_)
            · refine V_il1n dX11_down_53 ?_
              refine V_i2l dX11_down_54 rh ?_
              refine V_al0n dX11_down_55 ?_
              refine V_il2n dX11_down_56 ?_
              refine V_il3n dX11_down_57 ?_
              refine V_iconst dX11_down_58 ?_
              refine V_callV (as := [_, _, _]) ml_X11_385 im_X11_chanceToSay se_X11_chanceToSay kk0 (by decide) (by decide) dX11_down_59 rfl rfl (by decide) (by decide) (Nat.le_of_ble_eq_true rfl) (by decide) (by decide) rfl (c_chance hW hC (cl := 0) (by omega) (ho125 hk) ra rs) ?_
              refine pq4 ?_
              refine V_lmul dX11_down_62 ?_
              refine V_ls6 dX11_down_63 (by decide) rfl ?_
              refine V_ll6 dX11_down_65 ?_
              refine V_bipush dX11_down_67 rfl ?_
              refine V_il1n dX11_down_69 ?_
              refine V_isub dX11_down_70 ?_
              refine V_i2l dX11_down_71 (by unfold ri; omega) ?_
              refine V_al0n dX11_down_72 ?_
              refine V_il2n dX11_down_73 ?_
              refine V_il3n dX11_down_74 ?_
              refine V_iconst dX11_down_75 ?_
              refine V_callV (as := [_, _, _]) ml_X11_385 im_X11_chanceToSay se_X11_chanceToSay kk0 (by decide) (by decide) dX11_down_76 rfl rfl (by decide) (by decide) (Nat.le_of_ble_eq_true rfl) (by decide) (by decide) rfl (c_chance hW hC (cl := 1) (by omega) (ho126 hk) ra rs) ?_
              refine pq4 ?_
              refine V_lmul dX11_down_79 ?_
              refine V_ladd dX11_down_80 ?_
              refine V_ls8 dX11_down_81 (by decide) rfl ?_
              exact hz
            · rw [c5] at b46; cases b46
  · have ea : aDown T h a s w = -1 := by unfold aDown; rw [if_neg c]
    rw [ea]
    refine V_iconst dX11_down_0 ?_
    refine V_al0n dX11_down_1 ?_
    refine V_getR kk0 (by decide) fl_X11_29 hW.2.2.1 dX11_down_2 ?_
    refine V_iconst dX11_down_5 ?_
    refine V_callV (as := [_]) ml_X11_271 im_X7_size se_X7_size (kb_0 hb) (by decide) (kl_0 hb) dX11_down_6 rfl rfl (by decide) (by decide) (Nat.le_of_ble_eq_true rfl) (by decide) (by decide) rfl (c_size hρ hb hC (i := 4) (by omega)) ?_
    refine pq4 ?_
    refine V_ishl dX11_down_9 (iz_shlE (b := nJu T) (v := 2 ^ nJu T) e16 (by omega) (by omega)) ?_
    refine V_iconst dX11_down_10 ?_
    refine V_isub dX11_down_11 ?_
    refine V_is5 dX11_down_12 (by decide) rfl ?_
    refine V_il1n dX11_down_14 ?_
    refine V_if_lt (tgt := 49) dX11_down_15 rfl rh (fun b15 => ?_) (fun b15 => ?_)
    · refine V_ldc2_w (a := -1) kl_X11_383 rfl dX11_down_49 ?_
      exact V_lreturn rfl ⟨rfl, rfl, rfl, rfl⟩ dX11_down_52
    · refine V_il1n dX11_down_18 ?_
      refine V_bipush dX11_down_19 rfl ?_
      refine V_icmp_gt (tgt := 49) dX11_down_21 rfl rh (by unfold ri; omega) (fun b21 => ?_) (fun b21 => ?_)
      · refine V_ldc2_w (a := -1) kl_X11_383 rfl dX11_down_49 ?_
        exact V_lreturn rfl ⟨rfl, rfl, rfl, rfl⟩ dX11_down_52
      · refine V_il2n dX11_down_24 ?_
        refine V_il5 dX11_down_25 ?_
        refine V_iconst dX11_down_27 ?_
        refine V_ixor dX11_down_28 ex1 ?_
        refine V_iand dX11_down_29 ew1 ?_
        refine V_if_ne (tgt := 49) dX11_down_30 rfl rw1 (fun b30 => ?_) (fun b30 => ?_)
        · refine V_ldc2_w (a := -1) kl_X11_383 rfl dX11_down_49 ?_
          exact V_lreturn rfl ⟨rfl, rfl, rfl, rfl⟩ dX11_down_52
        · have d2 := hall.mp (hw1.mp b30)
          refine V_il3n dX11_down_33 ?_
          refine V_il2n dX11_down_34 ?_
          refine V_iconst dX11_down_35 ?_
          refine V_ixor dX11_down_36 (ex2 d2) ?_
          refine V_iand dX11_down_37 ew2 ?_
          refine V_if_ne (tgt := 49) dX11_down_38 rfl rw2 (fun b38 => ?_) (fun b38 => ?_)
          · refine V_ldc2_w (a := -1) kl_X11_383 rfl dX11_down_49 ?_
            exact V_lreturn rfl ⟨rfl, rfl, rfl, rfl⟩ dX11_down_52
          · refine V_il4 dX11_down_41 ?_
            refine V_callS (as := [_]) ml_X11_283 sm_X11_isPair dX11_down_43 rfl rfl (by decide) (by decide) (Nat.le_of_ble_eq_true rfl) (by decide) (by decide) rfl (c_isPair rw_) ?_
            refine pq4 ?_
            refine V_bf (tgt := 53) dX11_down_46 rfl (fun b46 => ?_) (fun b46 => ?_)
            · exact absurd (by unfold dwnO sayO; rw [b46, decide_eq_true (hw2.mp b38), decide_eq_true (hsn d2 b38), decide_eq_true d2, show zin h 0 100 = true by unfold zin; simp; omega]; rfl) c
            · refine V_ldc2_w (a := -1) kl_X11_383 rfl dX11_down_49 ?_
              exact V_lreturn rfl ⟨rfl, rfl, rfl, rfl⟩ dX11_down_52
theorem w_missed (hW : TW T b ρ) (hC : CT T b f) {k : Int} (rk : ri k) {N : Nat} (hN : 2 ^ nJu T = N) {Q : QT} (hQ : Q (some (.int (iz (missS T k)))) ρ f g) (s : Nat) (hs : s ≤ N) :
    V_X11_missed Q 18 [.ref 0, .int (iz k), .int (iz ((N : Int) - 1)), .long (lz (lkS (T 125) (nJu T) k true s)), .null, .int (iz (s : Int))] [] ρ f g := by
  have hk := hW.2.2.2.2.1
  have hρ := hW.1
  have h4 := hk.ju
  have hN16 : N ≤ 16 := by
    rw [← hN]
    have : (2 : Nat) ^ nJu T ≤ 2 ^ 4 := Nat.pow_le_pow_right (by omega) (by omega)
    omega
  have eN : (2 : Int) ^ nJu T - 1 = (N : Int) - 1 := by rw [← hN]; simp
  by_cases e : s = N
  · subst e
    have e2 : missS T k = lkS (T 125) (nJu T) k true s := by unfold missS; rw [hN]
    rw [e2] at hQ
    refine V_il5 dX11_missed_18 ?_
    refine V_il2n dX11_missed_20 ?_
    refine V_icmp_gt (tgt := 54) dX11_missed_21 rfl (by unfold ri; omega) (by unfold ri; omega) (fun b21 => ?_) (fun b21 => ?_)
    · refine V_ll3n dX11_missed_54 ?_
      refine V_l2i dX11_missed_55 ?_
      exact V_ireturn rfl hQ dX11_missed_56
    · exfalso; omega
  · have hx := w_missed hW hC rk hN hQ (s + 1) (by omega)
    simp only [lkS] at hx
    have hin := insN_rng (s : Int)
    refine V_il5 dX11_missed_18 ?_
    refine V_il2n dX11_missed_20 ?_
    refine V_icmp_gt (tgt := 54) dX11_missed_21 rfl (by unfold ri; omega) (by unfold ri; omega) (fun b21 => ?_) (fun b21 => ?_)
    · exfalso; omega
    · refine V_ll3n dX11_missed_24 ?_
      refine V_il5 dX11_missed_25 ?_
      refine V_callS (as := [_]) ml_X11_399 sm_J6_bitCount_0f7a4 dX11_missed_27 rfl rfl (by decide) (by decide) (Nat.le_of_ble_eq_true rfl) (by decide) (by decide) rfl (c_bitCount (a := s) (by omega)) ?_
      refine pq4 ?_
      refine V_il1n dX11_missed_30 ?_
      refine V_icmp_ge (tgt := 45) dX11_missed_31 rfl (by unfold ri; omega) rk (fun b31 => ?_) (fun b31 => ?_)
      · refine V_lconst (a := 0) dX11_missed_45 rfl ?_
        refine V_ladd dX11_missed_46 ?_
        refine V_ls3n dX11_missed_47 (by decide) rfl ?_
        refine V_inc5 dX11_missed_48 (by decide) rfl ?_
        refine V_goto (tgt := 18) dX11_missed_51 rfl ?_
        rw [if_neg (by simp; omega), Int.add_zero] at hx
        rw [Int.add_zero]
        exact hx
      · refine V_al0n dX11_missed_34 ?_
        refine V_il2n dX11_missed_35 ?_
        refine V_il5 dX11_missed_36 ?_
        refine V_iconst dX11_missed_38 ?_
        refine V_callV (as := [_, _, _]) ml_X11_385 im_X11_chanceToSay se_X11_chanceToSay kk0 (by decide) (by decide) dX11_missed_39 rfl rfl (by decide) (by decide) (Nat.le_of_ble_eq_true rfl) (by decide) (by decide) rfl (c_chance hW hC (cl := 0) (by omega) (ho125 hk) (asked := (N : Int) - 1) (say := (s : Int)) (by unfold ri; omega) (by unfold ri; omega)) ?_
        refine pq4 ?_
        refine V_goto (tgt := 46) dX11_missed_42 rfl ?_
        refine V_ladd dX11_missed_46 ?_
        refine V_ls3n dX11_missed_47 (by decide) rfl ?_
        refine V_inc5 dX11_missed_48 (by decide) rfl ?_
        refine V_goto (tgt := 18) dX11_missed_51 rfl ?_
        rw [if_pos (by simp; omega), eN] at hx
        exact hx
termination_by N - s
theorem w_wronged (hW : TW T b ρ) (hC : CT T b f) {k : Int} (rk : ri k) {N : Nat} (hN : 2 ^ nJu T = N) {Q : QT} (hQ : Q (some (.int (iz (wronS T k)))) ρ f g) (s : Nat) (hs : s ≤ N) :
    V_X11_wronged Q 18 [.ref 0, .int (iz k), .int (iz ((N : Int) - 1)), .long (lz (lkS (T 126) (nJu T) k false s)), .null, .int (iz (s : Int))] [] ρ f g := by
  have hk := hW.2.2.2.2.1
  have hρ := hW.1
  have h4 := hk.ju
  have hN16 : N ≤ 16 := by
    rw [← hN]
    have : (2 : Nat) ^ nJu T ≤ 2 ^ 4 := Nat.pow_le_pow_right (by omega) (by omega)
    omega
  have eN : (2 : Int) ^ nJu T - 1 = (N : Int) - 1 := by rw [← hN]; simp
  by_cases e : s = N
  · subst e
    have e2 : wronS T k = lkS (T 126) (nJu T) k false s := by unfold wronS; rw [hN]
    rw [e2] at hQ
    refine V_il5 dX11_wronged_18 ?_
    refine V_il2n dX11_wronged_20 ?_
    refine V_icmp_gt (tgt := 54) dX11_wronged_21 rfl (by unfold ri; omega) (by unfold ri; omega) (fun b21 => ?_) (fun b21 => ?_)
    · refine V_ll3n dX11_wronged_54 ?_
      refine V_l2i dX11_wronged_55 ?_
      exact V_ireturn rfl hQ dX11_wronged_56
    · exfalso; omega
  · have hx := w_wronged hW hC rk hN hQ (s + 1) (by omega)
    simp only [lkS] at hx
    have hin := insN_rng (s : Int)
    refine V_il5 dX11_wronged_18 ?_
    refine V_il2n dX11_wronged_20 ?_
    refine V_icmp_gt (tgt := 54) dX11_wronged_21 rfl (by unfold ri; omega) (by unfold ri; omega) (fun b21 => ?_) (fun b21 => ?_)
    · exfalso; omega
    · refine V_ll3n dX11_wronged_24 ?_
      refine V_il5 dX11_wronged_25 ?_
      refine V_callS (as := [_]) ml_X11_399 sm_J6_bitCount_0f7a4 dX11_wronged_27 rfl rfl (by decide) (by decide) (Nat.le_of_ble_eq_true rfl) (by decide) (by decide) rfl (c_bitCount (a := s) (by omega)) ?_
      refine pq4 ?_
      refine V_il1n dX11_wronged_30 ?_
      refine V_icmp_lt (tgt := 45) dX11_wronged_31 rfl (by unfold ri; omega) rk (fun b31 => ?_) (fun b31 => ?_)
      · refine V_lconst (a := 0) dX11_wronged_45 rfl ?_
        refine V_ladd dX11_wronged_46 ?_
        refine V_ls3n dX11_wronged_47 (by decide) rfl ?_
        refine V_inc5 dX11_wronged_48 (by decide) rfl ?_
        refine V_goto (tgt := 18) dX11_wronged_51 rfl ?_
        rw [if_neg (by simp; omega), Int.add_zero] at hx
        rw [Int.add_zero]
        exact hx
      · refine V_al0n dX11_wronged_34 ?_
        refine V_il2n dX11_wronged_35 ?_
        refine V_il5 dX11_wronged_36 ?_
        refine V_iconst dX11_wronged_38 ?_
        refine V_callV (as := [_, _, _]) ml_X11_385 im_X11_chanceToSay se_X11_chanceToSay kk0 (by decide) (by decide) dX11_wronged_39 rfl rfl (by decide) (by decide) (Nat.le_of_ble_eq_true rfl) (by decide) (by decide) rfl (c_chance hW hC (cl := 1) (by omega) (ho126 hk) (asked := (N : Int) - 1) (say := (s : Int)) (by unfold ri; omega) (by unfold ri; omega)) ?_
        refine pq4 ?_
        refine V_goto (tgt := 46) dX11_wronged_42 rfl ?_
        refine V_ladd dX11_wronged_46 ?_
        refine V_ls3n dX11_wronged_47 (by decide) rfl ?_
        refine V_inc5 dX11_wronged_48 (by decide) rfl ?_
        refine V_goto (tgt := 18) dX11_wronged_51 rfl ?_
        rw [if_pos (by simp; omega), eN] at hx
        exact hx
termination_by N - s
theorem c_missed (hW : TW T b ρ) (hC : CT T b f) {k : Int} (rk : ri k) : C_X11_missed [.ref 0, .int (iz k)] ρ f g (fun r ρ' f' g' => r = some (.int (iz (missS T k))) ∧ ρ' = ρ ∧ f' = f ∧ g' = g) := by
  have hk := hW.2.2.2.2.1
  have hρ := hW.1
  have hb := hW.2.1
  have h4 := hk.ju
  have e16 : T 104 (12 + 4) = (nJu T : Int) := h4.1
  refine Ct.ofV (by decide) rfl (Nat.le_of_ble_eq_true rfl) ?_
  refine V_iconst dX11_missed_0 ?_
  refine V_al0n dX11_missed_1 ?_
  refine V_getR kk0 (by decide) fl_X11_29 hW.2.2.1 dX11_missed_2 ?_
  refine V_iconst dX11_missed_5 ?_
  refine V_callV (as := [_]) ml_X11_271 im_X7_size se_X7_size (kb_0 hb) (by decide) (kl_0 hb) dX11_missed_6 rfl rfl (by decide) (by decide) (Nat.le_of_ble_eq_true rfl) (by decide) (by decide) rfl (c_size hρ hb hC (i := 4) (by omega)) ?_
  refine pq4 ?_
  refine V_ishl dX11_missed_9 (iz_shlE (b := nJu T) (v := ((2 ^ nJu T : Nat) : Int)) e16 (by omega) (by simp)) ?_
  refine V_iconst dX11_missed_10 ?_
  refine V_isub dX11_missed_11 ?_
  refine V_is2n dX11_missed_12 (by decide) rfl ?_
  refine V_lconst (a := 0) dX11_missed_13 rfl ?_
  refine V_ls3n dX11_missed_14 (by decide) rfl ?_
  refine V_iconst dX11_missed_15 ?_
  refine V_is5 dX11_missed_16 (by decide) rfl ?_
  exact w_missed hW hC rk rfl ⟨rfl, rfl, rfl, rfl⟩ 0 (Nat.zero_le _)
theorem c_wronged (hW : TW T b ρ) (hC : CT T b f) {k : Int} (rk : ri k) : C_X11_wronged [.ref 0, .int (iz k)] ρ f g (fun r ρ' f' g' => r = some (.int (iz (wronS T k))) ∧ ρ' = ρ ∧ f' = f ∧ g' = g) := by
  have hk := hW.2.2.2.2.1
  have hρ := hW.1
  have hb := hW.2.1
  have h4 := hk.ju
  have e16 : T 104 (12 + 4) = (nJu T : Int) := h4.1
  refine Ct.ofV (by decide) rfl (Nat.le_of_ble_eq_true rfl) ?_
  refine V_iconst dX11_wronged_0 ?_
  refine V_al0n dX11_wronged_1 ?_
  refine V_getR kk0 (by decide) fl_X11_29 hW.2.2.1 dX11_wronged_2 ?_
  refine V_iconst dX11_wronged_5 ?_
  refine V_callV (as := [_]) ml_X11_271 im_X7_size se_X7_size (kb_0 hb) (by decide) (kl_0 hb) dX11_wronged_6 rfl rfl (by decide) (by decide) (Nat.le_of_ble_eq_true rfl) (by decide) (by decide) rfl (c_size hρ hb hC (i := 4) (by omega)) ?_
  refine pq4 ?_
  refine V_ishl dX11_wronged_9 (iz_shlE (b := nJu T) (v := ((2 ^ nJu T : Nat) : Int)) e16 (by omega) (by simp)) ?_
  refine V_iconst dX11_wronged_10 ?_
  refine V_isub dX11_wronged_11 ?_
  refine V_is2n dX11_wronged_12 (by decide) rfl ?_
  refine V_lconst (a := 0) dX11_wronged_13 rfl ?_
  refine V_ls3n dX11_wronged_14 (by decide) rfl ?_
  refine V_iconst dX11_wronged_15 ?_
  refine V_is5 dX11_wronged_16 (by decide) rfl ?_
  exact w_wronged hW hC rk rfl ⟨rfl, rfl, rfl, rfl⟩ 0 (Nat.zero_le _)
theorem c_errors (hW : TW T b ρ) (hC : CT T b f) {k w : Int} (rk : ri k) (rw_ : ri w) : C_X11_errors [.ref 0, .int (iz k), .int (iz w)] ρ f g (fun r ρ' f' g' => r = some (.int (iz (aErrors T k w))) ∧ ρ' = ρ ∧ f' = f ∧ g' = g) := by
  refine Ct.ofV (by decide) rfl (Nat.le_of_ble_eq_true rfl) ?_
  unfold aErrors
  by_cases c : (0 ≤ k ∧ k ≤ 5) ∧ zin w 0 1 = true
  · rw [show zin k 0 5 = true by unfold zin; simpa using c.1, c.2, Bool.and_true, if_pos rfl]
    refine V_il1n dX11_errors_0 ?_
    refine V_if_lt (tgt := 16) dX11_errors_1 rfl rk (fun b1 => ?_) (fun b1 => ?_)
    · exfalso; omega
    · refine V_il1n dX11_errors_4 ?_
      refine V_iconst dX11_errors_5 ?_
      refine V_icmp_gt (tgt := 16) dX11_errors_6 rfl rk (by unfold ri; omega) (fun b6 => ?_) (fun b6 => ?_)
      · exfalso; omega
      · refine V_il2n dX11_errors_9 ?_
        refine V_callS (as := [_]) ml_X11_283 sm_X11_isPair dX11_errors_10 rfl rfl (by decide) (by decide) (Nat.le_of_ble_eq_true rfl) (by decide) (by decide) rfl (c_isPair rw_) ?_
        refine pq4 ?_
        refine V_bf (tgt := 18) dX11_errors_13 rfl (fun b13 => ?_) (fun b13 => ?_)
        · refine V_il2n dX11_errors_18 ?_
          refine V_if_ne (tgt := 30) dX11_errors_19 rfl rw_ (fun b19 => ?_) (fun b19 => ?_)
          · refine V_al0n dX11_errors_30 ?_
            refine V_il1n dX11_errors_31 ?_
            refine V_callV (as := [_]) ml_X11_396 im_X11_wronged se_X11_wronged kk0 (by decide) (by decide) dX11_errors_32 rfl rfl (by decide) (by decide) (Nat.le_of_ble_eq_true rfl) (by decide) (by decide) rfl (c_wronged hW hC rk) ?_
            refine pq4 ?_
            exact V_ireturn rfl ⟨by first | rw [if_pos (by omega)] | rw [if_neg (by omega)], rfl, rfl, rfl⟩ dX11_errors_35
          · refine V_al0n dX11_errors_22 ?_
            refine V_il1n dX11_errors_23 ?_
            refine V_callV (as := [_]) ml_X11_393 im_X11_missed se_X11_missed kk0 (by decide) (by decide) dX11_errors_24 rfl rfl (by decide) (by decide) (Nat.le_of_ble_eq_true rfl) (by decide) (by decide) rfl (c_missed hW hC rk) ?_
            refine pq4 ?_
            refine V_goto (tgt := 35) dX11_errors_27 rfl ?_
            exact V_ireturn rfl ⟨by first | rw [if_pos (by omega)] | rw [if_neg (by omega)], rfl, rfl, rfl⟩ dX11_errors_35
        · rw [c.2] at b13; cases b13
  · rw [if_neg (fun z => c ?_)]
    · refine V_il1n dX11_errors_0 ?_
      refine V_if_lt (tgt := 16) dX11_errors_1 rfl rk (fun b1 => ?_) (fun b1 => ?_)
      · refine V_iconst dX11_errors_16 ?_
        exact V_ireturn rfl ⟨rfl, rfl, rfl, rfl⟩ dX11_errors_17
      · refine V_il1n dX11_errors_4 ?_
        refine V_iconst dX11_errors_5 ?_
        refine V_icmp_gt (tgt := 16) dX11_errors_6 rfl rk (by unfold ri; omega) (fun b6 => ?_) (fun b6 => ?_)
        · refine V_iconst dX11_errors_16 ?_
          exact V_ireturn rfl ⟨rfl, rfl, rfl, rfl⟩ dX11_errors_17
        · refine V_il2n dX11_errors_9 ?_
          refine V_callS (as := [_]) ml_X11_283 sm_X11_isPair dX11_errors_10 rfl rfl (by decide) (by decide) (Nat.le_of_ble_eq_true rfl) (by decide) (by decide) rfl (c_isPair rw_) ?_
          refine pq4 ?_
          refine V_bf (tgt := 18) dX11_errors_13 rfl (fun b13 => ?_) (fun b13 => ?_)
          · exact absurd ⟨by omega, b13⟩ c
          · refine V_iconst dX11_errors_16 ?_
            exact V_ireturn rfl ⟨rfl, rfl, rfl, rfl⟩ dX11_errors_17
    · rw [Bool.and_eq_true] at z
      exact ⟨by have := z.1; unfold zin at this; simpa using this, z.2⟩
theorem w_crule (hW : TW T b ρ) (hC : CT T b f) {B : Int × Int} {Q : QT} (hQ : Q (some (.int (iz B.1))) ρ f g) (k : Nat) (hkk : 1 ≤ k ∧ k ≤ 6) (x : Int × Int) (hx : 0 ≤ x.2 ∧ x.2 ≤ 200000000) (hB : B = ruS T (6 - k) k x) :
    V_X11_rule Q 16 [.ref 0, .int (iz x.1), .int (iz x.2), .int (iz (k : Int)), .null] [] ρ f g := by
  have hk := hW.2.2.2.2.1
  by_cases e : k = 6
  · subst e
    simp only [Nat.sub_self, ruS] at hB
    subst hB
    refine V_il3n dX11_rule_16 ?_
    refine V_iconst dX11_rule_17 ?_
    refine V_icmp_gt (tgt := 51) dX11_rule_18 rfl (by unfold ri; omega) (by unfold ri; omega) (fun b18 => ?_) (fun b18 => ?_)
    · refine V_il1n dX11_rule_51 ?_
      exact V_ireturn rfl hQ dX11_rule_52
    · exfalso; omega
  · rw [show 6 - k = (6 - (k + 1)) + 1 by omega, ruS] at hB
    have hr := mw_rng hk (k : Int)
    refine V_il3n dX11_rule_16 ?_
    refine V_iconst dX11_rule_17 ?_
    refine V_icmp_gt (tgt := 51) dX11_rule_18 rfl (by unfold ri; omega) (by unfold ri; omega) (fun b18 => ?_) (fun b18 => ?_)
    · exfalso; omega
    · refine V_al0n dX11_rule_21 ?_
      refine V_il3n dX11_rule_22 ?_
      refine V_callV (as := [_]) ml_X11_393 im_X11_missed se_X11_missed kk0 (by decide) (by decide) dX11_rule_23 rfl rfl (by decide) (by decide) (Nat.le_of_ble_eq_true rfl) (by decide) (by decide) rfl (c_missed hW hC (k := (k : Int)) (by unfold ri; omega)) ?_
      refine pq4 ?_
      refine V_al0n dX11_rule_26 ?_
      refine V_il3n dX11_rule_27 ?_
      refine V_callV (as := [_]) ml_X11_396 im_X11_wronged se_X11_wronged kk0 (by decide) (by decide) dX11_rule_28 rfl rfl (by decide) (by decide) (Nat.le_of_ble_eq_true rfl) (by decide) (by decide) rfl (c_wronged hW hC (k := (k : Int)) (by unfold ri; omega)) ?_
      refine pq4 ?_
      refine V_iadd dX11_rule_31 ?_
      refine V_is4 dX11_rule_32 (by decide) rfl ?_
      refine V_il4 dX11_rule_34 ?_
      refine V_il2n dX11_rule_36 ?_
      refine V_icmp_ge (tgt := 45) dX11_rule_37 rfl (by unfold ri; omega) (by unfold ri; omega) (fun b37 => ?_) (fun b37 => ?_)
      · refine V_inc3 dX11_rule_45 (by decide) rfl ?_
        refine V_goto (tgt := 16) dX11_rule_48 rfl ?_
        rw [if_pos (by omega)] at hB
        exact V_weak (by repeat (first | exact wk_n | refine wk_c (Or.inr rfl) ?_ | refine wk_c (Or.inl rfl) ?_)) (w_crule hW hC hQ (k + 1) (by omega) x hx hB)
      · refine V_il3n dX11_rule_40 ?_
        refine V_is1n dX11_rule_41 (by decide) rfl ?_
        refine V_il4 dX11_rule_42 ?_
        refine V_is2n dX11_rule_44 (by decide) rfl ?_
        refine V_inc3 dX11_rule_45 (by decide) rfl ?_
        refine V_goto (tgt := 16) dX11_rule_48 rfl ?_
        rw [if_neg (by omega)] at hB
        exact V_weak (by repeat (first | exact wk_n | refine wk_c (Or.inr rfl) ?_ | refine wk_c (Or.inl rfl) ?_)) (w_crule hW hC hQ (k + 1) (by omega) _ (by simp only; omega) hB)
termination_by 6 - k
theorem c_rule (hW : TW T b ρ) (hC : CT T b f) : C_X11_rule [.ref 0] ρ f g (fun r ρ' f' g' => r = some (.int (iz (aRule T))) ∧ ρ' = ρ ∧ f' = f ∧ g' = g) := by
  have hk := hW.2.2.2.2.1
  have hr := mw_rng hk 0
  refine Ct.ofV (by decide) rfl (Nat.le_of_ble_eq_true rfl) ?_
  refine V_iconst dX11_rule_0 ?_
  refine V_is1n dX11_rule_1 (by decide) rfl ?_
  refine V_al0n dX11_rule_2 ?_
  refine V_iconst dX11_rule_3 ?_
  refine V_callV (as := [_]) ml_X11_393 im_X11_missed se_X11_missed kk0 (by decide) (by decide) dX11_rule_4 rfl rfl (by decide) (by decide) (Nat.le_of_ble_eq_true rfl) (by decide) (by decide) rfl (c_missed hW hC (k := 0) (by unfold ri; omega)) ?_
  refine pq4 ?_
  refine V_al0n dX11_rule_7 ?_
  refine V_iconst dX11_rule_8 ?_
  refine V_callV (as := [_]) ml_X11_396 im_X11_wronged se_X11_wronged kk0 (by decide) (by decide) dX11_rule_9 rfl rfl (by decide) (by decide) (Nat.le_of_ble_eq_true rfl) (by decide) (by decide) rfl (c_wronged hW hC (k := 0) (by unfold ri; omega)) ?_
  refine pq4 ?_
  refine V_iadd dX11_rule_12 ?_
  refine V_is2n dX11_rule_13 (by decide) rfl ?_
  refine V_iconst dX11_rule_14 ?_
  refine V_is3n dX11_rule_15 (by decide) rfl ?_
  exact w_crule hW hC (B := ruS T 6 0 (0, -1)) ⟨rfl, rfl, rfl, rfl⟩ 1 (by omega) (0, missS T 0 + wronS T 0) (by simp only; omega) (by rw [ruS, if_neg (by simp only; omega)]; rfl)
end CDOWN

