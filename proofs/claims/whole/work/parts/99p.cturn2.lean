section CCORN
variable {T : TT} {b : Nat} {ρ : RT} {f : IT} {g : JT}
/-- what a question on corners leaves -/
def QC (T : TT) (b : Nat) (n : Int) (f : IT) (g : JT) (f' : IT) (g' : JT) : Prop := (∃ fl ra, GI T fl ra f' g') ∧ CT T b f' ∧ AG n f f' ∧ (∀ a k, ¬ (55 ≤ a ∧ a ≤ 59) → ¬ (81 ≤ a ∧ a ≤ 83) → f' a k = f a k) ∧ ∀ a, a ≠ b + 22 → a ≠ b + 23 → g' a = g a
theorem QC.rf {fl ra : Bool} (h : GI T fl ra f g) (hC : CT T b f) {n : Int} (hn : 0 ≤ n) : QC T b n f g f g := ⟨⟨fl, ra, h⟩, hC, AG.rf.wk hn, fun _ _ _ _ => rfl, fun _ _ _ => rfl⟩
def TJ (so : Nat) (n : Nat) (J W : Nat → Int) (f : IT) : Prop := f 81 0 = (so : Int) ∧ ∀ m, m < n → f 82 m = J m ∧ f 83 m = W m
theorem w_layTurn {Q : QT} {f0 : IT} {g0 : JT} (hW : TW T b ρ) {sk : Int} {ra : Bool} (hs : f0 0 5 = sk) (hsk : 0 ≤ sk ∧ sk ≤ 30) (hr : f0 0 6 = bz ra) (h5 : f0 55 5 < 999000) {so k : Nat} (hl : k < nLa T)
    (hQ : ∀ (f : IT) (g : JT), QC T b 5 f0 g0 f g → TJ so (nMe T) (jmS T ra sk k) (wdS T ra sk k) f → Q none ρ f g)
    (i : Nat) (hi : i ≤ nMe T) (f : IT) (g : JT) (hq : QC T b (i : Int) f0 g0 f g) (hJ : TJ so i (jmS T ra sk k) (wdS T ra sk k) f) :
    V_X11_layTurn Q 10 [.ref 0, .int (iz (so : Int)), .int (iz (k : Int)), .int (iz (i : Int))] [] ρ f g := by
  have hk := hW.2.2.2.2.1
  have hP := hW.2.2.2.2.2
  have hρ := hW.1
  have hb := hW.2.1
  have h5m := hk.me
  have h6 := hk.la
  have e13 : T 104 (12 + 1) = (nMe T : Int) := h5m.1
  have hq0 := hq
  obtain ⟨⟨fl0, ra0, hG⟩, hC, hAG, hF, hGg⟩ := hq
  by_cases e : i = nMe T
  · subst e
    refine V_il3n dX11_layTurn_10 ?_
    refine V_al0n dX11_layTurn_11 ?_
    refine V_getR kk0 (by decide) fl_X11_29 hW.2.2.1 dX11_layTurn_12 ?_
    refine V_iconst dX11_layTurn_15 ?_
    refine V_callV (as := [_]) ml_X11_271 im_X7_size se_X7_size (kb_0 hb) (by decide) (kl_0 hb) dX11_layTurn_16 rfl rfl (by decide) (by decide) (Nat.le_of_ble_eq_true rfl) (by decide) (by decide) rfl (c_size hρ hb hC (i := 1) (by omega)) ?_
    refine pq4 ?_
    refine V_icmp_ge (tgt := 120) dX11_layTurn_19 rfl (by unfold ri; omega) (by unfold ri; omega) (fun b19 => ?_) (fun b19 => ?_)
    · exact V_return rfl (hQ f g ⟨⟨fl0, ra0, hG⟩, hC, hAG.wk (by omega), hF, hGg⟩ hJ) dX11_layTurn_120
    · exfalso; omega
  · have hm : i < nMe T := by omega
    have hma := hk.man hm
    have t0 := tat1 hk (j := 0) hm (by omega)
    have t1 := tat1 hk (j := 1) hm (by omega)
    simp [tcl] at t0 t1
    refine V_il3n dX11_layTurn_10 ?_
    refine V_al0n dX11_layTurn_11 ?_
    refine V_getR kk0 (by decide) fl_X11_29 hW.2.2.1 dX11_layTurn_12 ?_
    refine V_iconst dX11_layTurn_15 ?_
    refine V_callV (as := [_]) ml_X11_271 im_X7_size se_X7_size (kb_0 hb) (by decide) (kl_0 hb) dX11_layTurn_16 rfl rfl (by decide) (by decide) (Nat.le_of_ble_eq_true rfl) (by decide) (by decide) rfl (c_size hρ hb hC (i := 1) (by omega)) ?_
    refine pq4 ?_
    refine V_icmp_ge (tgt := 120) dX11_layTurn_19 rfl (by unfold ri; omega) (by unfold ri; omega) (fun b19 => ?_) (fun b19 => ?_)
    · exfalso; omega
    · refine V_il3n dX11_layTurn_22 ?_
      refine V_iconst dX11_layTurn_23 ?_
      refine V_icmp_ge (tgt := 120) dX11_layTurn_24 rfl (by unfold ri; omega) (by unfold ri; omega) (fun b24 => ?_) (fun b24 => ?_)
      · exfalso; omega
      · refine V_al0n dX11_layTurn_27 ?_
        refine V_il3n dX11_layTurn_28 ?_
        refine V_callV (as := [_]) ml_X11_186 im_X11_makeReady se_X11_makeReady kk0 (by decide) (by decide) dX11_layTurn_29 rfl rfl (by decide) (by decide) (Nat.le_of_ble_eq_true rfl) (by decide) (by decide) rfl (c_makeReady hW hC hG (by have := hAG.2; omega) hm ((hF 0 5 (by omega) (by omega)).trans hs) hsk ((hF 0 6 (by omega) (by omega)).trans hr)) ?_
        rintro r29 ρ29 f29 g29 ⟨rfl, s29_0, s29_1, q1⟩
        obtain rfl := s29_0.symm
        obtain rfl := s29_1.symm
        have hC2 : CT T b f29 := hC.cg hb (fun a k h1 h2 => q1.1 a k (by omega) (by omega))
        have hcg : ∀ n, n < 8 → us T n = true → nms T k false ra (f29 55 2) (f29 55 1) (T 113 i) (T 114 i) 0 n = nms T k false ra sk (T 115 i) (T 113 i) (T 114 i) 0 n := nms_cg (by rw [q1.2.2.2.1, ms_ms]) (by rw [q1.2.2.1, ms_ms]) rfl rfl
        have ej : bl T (nms T k false ra (f29 55 2) (f29 55 1) (T 113 i) (T 114 i) 0) 6 5 0 999 = jmS T ra sk k i := bl_cg hk hP (by omega) hcg
        have ew : bl T (nms T k false ra (f29 55 2) (f29 55 1) (T 113 i) (T 114 i) 0) 7 6 0 999 = wdS T ra sk k i := bl_cg hk hP (by omega) hcg
        have nb := nms_inB hk hl (fl := false) (ra := ra) (sk := f29 55 2) (wt := f29 55 1) (wi := T 113 i) (le := T 114 i) (pa := 0) (by have := q1.2.1.2.2.2.1; omega) (by have := q1.2.1.2.2.1; omega) (by omega) (by omega) (by omega)
        refine V_al0n dX11_layTurn_32 ?_
        refine V_getR kk0 (by decide) fl_X11_48 (fx_0_7 hρ) dX11_layTurn_33 ?_
        refine V_il2n dX11_layTurn_36 ?_
        refine V_iconst dX11_layTurn_37 ?_
        refine V_al0n dX11_layTurn_38 ?_
        refine V_getR kk0 (by decide) fl_X11_29 hW.2.2.1 dX11_layTurn_39 ?_
        refine V_iconst dX11_layTurn_42 ?_
        refine V_il3n dX11_layTurn_43 ?_
        refine V_iconst dX11_layTurn_44 ?_
        refine V_callV (as := [_, _, _]) ml_X11_176 im_X7_at se_X7_at (kb_0 hb) (by decide) (kl_0 hb) dX11_layTurn_45 rfl rfl (by decide) (by decide) (Nat.le_of_ble_eq_true rfl) (by decide) (by decide) rfl (c_at hρ hb hC2 hk (i := 1) (by omega) (k := (i : Int)) (by unfold ri; omega) (by unfold ri; omega)) ?_
        refine pq4 ?_
        refine V_al0n dX11_layTurn_48 ?_
        refine V_getR kk0 (by decide) fl_X11_29 hW.2.2.1 dX11_layTurn_49 ?_
        refine V_iconst dX11_layTurn_52 ?_
        refine V_il3n dX11_layTurn_53 ?_
        refine V_iconst dX11_layTurn_54 ?_
        refine V_callV (as := [_, _, _]) ml_X11_176 im_X7_at se_X7_at (kb_0 hb) (by decide) (kl_0 hb) dX11_layTurn_55 rfl rfl (by decide) (by decide) (Nat.le_of_ble_eq_true rfl) (by decide) (by decide) rfl (c_at hρ hb hC2 hk (i := 1) (by omega) (k := (i : Int)) (by unfold ri; omega) (by unfold ri; omega)) ?_
        refine pq4 ?_
        rw [t0, t1]
        refine V_callV (as := [_, _, _, _]) ml_X11_189 im_X0_give se_X0_give kk55 (by decide) (by decide) dX11_layTurn_58 rfl rfl (by decide) (by decide) (Nat.le_of_ble_eq_true rfl) (by decide) (by decide) rfl (c_give hρ hW.2.2.2.1 hb hk q1.2.1 hl (pa := 0) (by unfold ri; omega) (by unfold ri; omega) (by unfold ri; omega)) ?_
        rintro r58 ρ58 f58 g58 ⟨rfl, s58_0, s58_1, q2, q3⟩
        obtain rfl := s58_0.symm
        obtain rfl := s58_1.symm
        refine V_al0n dX11_layTurn_61 ?_
        refine V_getR kk0 (by decide) fl_X11_107 (fx_0_19 hρ) dX11_layTurn_62 ?_
        refine V_getR kk81 (by decide) fl_X11_374 (fx_81_1 hρ) dX11_layTurn_65 ?_
        refine V_il3n dX11_layTurn_68 ?_
        refine V_al0n dX11_layTurn_69 ?_
        refine V_getR kk0 (by decide) fl_X11_29 hW.2.2.1 dX11_layTurn_70 ?_
        refine V_getR (kb_0 hb) (kl_0 hb) fl_X11_193 (fb_0_1 hρ hb) dX11_layTurn_73 ?_
        refine V_bipush dX11_layTurn_76 rfl ?_
        refine V_iconst dX11_layTurn_78 ?_
        refine V_sipush dX11_layTurn_79 rfl ?_
        refine V_iconst dX11_layTurn_82 ?_
        refine V_callV (as := [_, _, _, _]) ml_X11_377 im_X1_within se_X1_within (kb_17 hb) (by decide) (kl_17 hb) dX11_layTurn_83 rfl rfl (by decide) (by decide) (Nat.le_of_ble_eq_true rfl) (by decide) (by decide) rfl (c_within hρ hb hC2 hk hP (w := 6) (by omega) (fun n hn => ⟨q2 n hn, nb n⟩) (by unfold ri; omega) (by unfold ri; omega) (by unfold ri; omega)) ?_
        rintro r83 ρ83 f83 g83 ⟨rfl, s83_0, s83_1, q4⟩
        obtain rfl := s83_0.symm
        obtain rfl := s83_1.symm
        rw [ej]
        refine V_iast (k := i) kk82 (by decide) (by first | rfl | omega) (by omega) (by first | decide | assumption | omega) dX11_layTurn_86 ?_
        have hC3 : CT T b (u2 f29 82 i (jmS T ra sk k i)) := hC2.cg hb (fun a k h1 h2 => u2_o (by omega))
        have n83 : ∀ n, n < 8 → g83 (b + 23) n = nms T k false ra (f29 55 2) (f29 55 1) (T 113 i) (T 114 i) 0 n := fun n hn => by rw [q4 (b + 23) (by omega)]; exact q2 n hn
        refine V_al0n dX11_layTurn_87 ?_
        refine V_getR kk0 (by decide) fl_X11_107 (fx_0_19 hρ) dX11_layTurn_88 ?_
        refine V_getR kk81 (by decide) fl_X11_380 (fx_81_2 hρ) dX11_layTurn_91 ?_
        refine V_il3n dX11_layTurn_94 ?_
        refine V_al0n dX11_layTurn_95 ?_
        refine V_getR kk0 (by decide) fl_X11_29 hW.2.2.1 dX11_layTurn_96 ?_
        refine V_getR (kb_0 hb) (kl_0 hb) fl_X11_193 (fb_0_1 hρ hb) dX11_layTurn_99 ?_
        refine V_bipush dX11_layTurn_102 rfl ?_
        refine V_iconst dX11_layTurn_104 ?_
        refine V_sipush dX11_layTurn_105 rfl ?_
        refine V_bipush dX11_layTurn_108 rfl ?_
        refine V_callV (as := [_, _, _, _]) ml_X11_377 im_X1_within se_X1_within (kb_17 hb) (by decide) (kl_17 hb) dX11_layTurn_110 rfl rfl (by decide) (by decide) (Nat.le_of_ble_eq_true rfl) (by decide) (by decide) rfl (c_within hρ hb hC3 hk hP (w := 7) (by omega) (fun n hn => ⟨n83 n hn, nb n⟩) (by unfold ri; omega) (by unfold ri; omega) (by unfold ri; omega)) ?_
        rintro r110 ρ110 f110 g110 ⟨rfl, s110_0, s110_1, q5⟩
        obtain rfl := s110_0.symm
        obtain rfl := s110_1.symm
        rw [ew]
        refine V_iast (k := i) kk83 (by decide) (by first | rfl | omega) (by omega) (by first | decide | assumption | omega) dX11_layTurn_113 ?_
        refine V_inc3 dX11_layTurn_114 (by decide) rfl ?_
        refine V_goto (tgt := 10) dX11_layTurn_117 rfl ?_
        have fo : ∀ a j, a ≠ 82 → a ≠ 83 → u2 (u2 f29 82 i (jmS T ra sk k i)) 83 i (wdS T ra sk k i) a j = f29 a j := fun a j z1 z2 => by rw [u2_o (by omega), u2_o (by omega)]
        have hg1 : ∀ a, a ≠ b + 22 → a ≠ b + 23 → g110 a = g a := fun a z1 z2 => (q5 a z1).trans ((q4 a z1).trans (q3 a z2))
        have hq2 : QC T b (((i + 1 : Nat)) : Int) f0 g0 (u2 (u2 f29 82 i (jmS T ra sk k i)) 83 i (wdS T ra sk k i)) g110 := ⟨⟨false, ra, q1.2.1.cg (fun a j z1 z2 => fo a j (by omega) (by omega)) (hg1 60 (by omega) (by omega))⟩, hC2.cg hb (fun a j z1 z2 => fo a j (by omega) (by omega)), (hAG.tr (q1.ag.tr (AG.sm (fun j => fo 55 j (by omega) (by omega))))).wk (by omega), fun a j z1 z2 => (fo a j (by omega) (by omega)).trans ((q1.1 a j (by omega) (by omega)).trans (hF a j z1 z2)), fun a z1 z2 => (hg1 a z1 z2).trans (hGg a z1 z2)⟩
        exact w_layTurn hW hs hsk hr h5 hl hQ (i + 1) (by omega) _ g110 hq2 ⟨by rw [fo 81 0 (by omega) (by omega), q1.1 81 0 (by omega) (by omega)]; exact hJ.1, fun m hm2 => by
          by_cases em : m = i
          · subst em
            exact ⟨by rw [u2_o (by omega), u2_s], u2_s⟩
          · have := hJ.2 m (by omega)
            exact ⟨by rw [u2_o (by omega), u2_o (by omega), q1.1 82 m (by omega) (by omega)]; exact this.1, by rw [u2_o (by omega), u2_o (by omega), q1.1 83 m (by omega) (by omega)]; exact this.2⟩⟩
termination_by nMe T - i
theorem c_layTurn (hW : TW T b ρ) (hC : CT T b f) {fl0 ra0 : Bool} (hG : GI T fl0 ra0 f g) (h5 : f 55 5 < 999000) {sk : Int} {ra : Bool} (hs : f 0 5 = sk) (hsk : 0 ≤ sk ∧ sk ≤ 30) (hr : f 0 6 = bz ra) {so k : Nat} (hl : k < nLa T) :
    C_X11_layTurn [.ref 0, .int (iz (so : Int)), .int (iz (k : Int))] ρ f g (fun r ρ' f' g' => r = none ∧ ρ' = ρ ∧ QC T b 5 f g f' g' ∧ TJ so (nMe T) (jmS T ra sk k) (wdS T ra sk k) f') := by
  have hb := hW.2.1
  have hρ := hW.1
  refine Ct.ofV (by decide) rfl (Nat.le_of_ble_eq_true rfl) ?_
  refine V_al0n dX11_layTurn_0 ?_
  refine V_getR kk0 (by decide) fl_X11_107 (fx_0_19 hρ) dX11_layTurn_1 ?_
  refine V_il1n dX11_layTurn_4 ?_
  refine V_putI kk81 (by decide) fl_X11_371 rfl dX11_layTurn_5 ?_
  refine V_iconst dX11_layTurn_8 ?_
  refine V_is3n dX11_layTurn_9 (by decide) rfl ?_
  have fo : ∀ a j, a ≠ 81 → u2 f 81 0 (so : Int) a j = f a j := fun a j z1 => u2_o (by omega)
  exact w_layTurn hW hs hsk hr h5 hl (fun f' g' a1 a2 => ⟨rfl, rfl, a1, a2⟩) 0 (by omega) _ g ⟨⟨fl0, ra0, hG.cg (fun a j z1 z2 => fo a j (by omega)) rfl⟩, hC.cg hb (fun a j z1 z2 => fo a j (by omega)), AG.sm (fun j => fo 55 j (by omega)), fun a j z1 z2 => fo a j (by omega), fun _ _ _ => rfl⟩ ⟨u2_s, fun m hm => by omega⟩
theorem c_xisOf {so i : Nat} (hso : so < 32) (hi : i < 32) (h0 : f 81 0 = (so : Int)) : C_X9_isOf [.ref 81, .int (iz (i : Int))] ρ f g (fun r ρ' f' g' => r = some (.int (iz (bz (sbJ i so)))) ∧ ρ' = ρ ∧ f' = f ∧ g' = g) := by
  have ha := Nat.and_le_left (n := i) (m := 31 ^^^ so)
  refine Ct.ofV (by decide) rfl (Nat.le_of_ble_eq_true rfl) ?_
  refine V_il1n dX9_isOf_0 ?_
  refine V_al0n dX9_isOf_1 ?_
  refine V_getI kk81 (by decide) fl_X9_9 h0 dX9_isOf_2 ?_
  refine V_iconst dX9_isOf_5 ?_
  refine V_ixor dX9_isOf_6 (iz_m1x so hso) ?_
  refine V_iand dX9_isOf_7 (iz_sub32 so hso i hi) ?_
  refine V_if_ne (tgt := 15) dX9_isOf_8 rfl (by unfold ri; omega) (fun b8 => ?_) (fun b8 => ?_)
  · refine V_iconst dX9_isOf_15 ?_
    exact V_zreturn rfl (by first | exact Or.inl rfl | exact Or.inr rfl | (unfold bz; split <;> simp)) ⟨by unfold sbJ bz; simp only [decide_eq_true_eq]; split <;> first | rfl | (exfalso; omega), rfl, rfl, rfl⟩ dX9_isOf_16
  · refine V_iconst dX9_isOf_11 ?_
    refine V_goto (tgt := 16) dX9_isOf_12 rfl ?_
    exact V_zreturn rfl (by first | exact Or.inl rfl | exact Or.inr rfl | (unfold bz; split <;> simp)) ⟨by unfold sbJ bz; simp only [decide_eq_true_eq]; split <;> first | rfl | (exfalso; omega), rfl, rfl, rfl⟩ dX9_isOf_16
theorem ins_wo : ∀ m : Nat, m < 5 → ∀ i : Nat, i < 32 → (i : Int) / 2 ^ m % 2 = 1 → insN ((i &&& (31 ^^^ 2 ^ m) : Nat) : Int) = insN (i : Int) - 1 := by decide +kernel
theorem and31_lt : ∀ m : Nat, m < 5 → ∀ i : Nat, i < 32 → i &&& (31 ^^^ 2 ^ m) < 32 := by decide +kernel
theorem c_loss (hρ : Fx ρ) {J W : Nat → Int} {m i : Nat} (hm : m < 5) (hi : i < 32) (hJ : f 82 m = J m) (hW : f 83 m = W m) : C_X9_loss [.ref 81, .int (iz (m : Int)), .int (iz (i : Int))] ρ f g (fun r ρ' f' g' => r = some (.int (iz (lsJ J W m (i : Int)))) ∧ ρ' = ρ ∧ f' = f ∧ g' = g) := by
  have h2 : (2 : Nat) ^ m < 32 := by
    have : (2 : Nat) ^ m < 2 ^ 5 := Nat.pow_lt_pow_right (by omega) hm
    omega
  have hbit : (i : Int) / 2 ^ m % 2 = 0 ∨ (i : Int) / 2 ^ m % 2 = 1 := by omega
  have hl := ins_wo m hm i hi
  refine Ct.ofV (by decide) rfl (Nat.le_of_ble_eq_true rfl) ?_
  refine V_il2n dX9_loss_0 ?_
  refine V_iconst dX9_loss_1 ?_
  refine V_il1n dX9_loss_2 ?_
  refine V_ishl dX9_loss_3 (iz_shlE (b := m) (v := ((2 ^ m : Nat) : Int)) rfl (by omega) (by simp)) ?_
  refine V_iconst dX9_loss_4 ?_
  refine V_ixor dX9_loss_5 (iz_m1x (2 ^ m) h2) ?_
  refine V_iand dX9_loss_6 (iz_sub32 (2 ^ m) h2 i hi) ?_
  refine V_callS (as := [_]) ml_X9_22 sm_J6_bitCount_0f7a4 dX9_loss_7 rfl rfl (by decide) (by decide) (Nat.le_of_ble_eq_true rfl) (by decide) (by decide) rfl (c_bitCount (and31_lt m hm i hi)) ?_
  refine pq4 ?_
  refine V_is3n dX9_loss_10 (by decide) rfl ?_
  refine V_il2n dX9_loss_11 ?_
  refine V_il1n dX9_loss_12 ?_
  refine V_ishr dX9_loss_13 (iz_shr (by unfold ri; omega) (by omega : m < 32)) ?_
  refine V_iconst dX9_loss_14 ?_
  refine V_iand dX9_loss_15 (iz_and1 _) ?_
  refine V_if_eq (tgt := 30) dX9_loss_16 rfl (by unfold ri; omega) (fun b16 => ?_) (fun b16 => ?_)
  · refine V_al0n dX9_loss_30 ?_
    refine V_getR kk81 (by decide) fl_X9_19 (fx_81_2 hρ) dX9_loss_31 ?_
    refine V_il1n dX9_loss_34 ?_
    refine V_iald (k := m) kk83 (by decide) (by first | rfl | omega) (by omega) (by first | decide | assumption | omega) hW dX9_loss_35 ?_
    exact V_ireturn rfl ⟨by unfold lsJ; first | (rw [if_pos (by omega), hl (by omega)]) | (rw [if_neg (by omega)]), rfl, rfl, rfl⟩ dX9_loss_36
  · refine V_al0n dX9_loss_19 ?_
    refine V_getR kk81 (by decide) fl_X9_15 (fx_81_1 hρ) dX9_loss_20 ?_
    refine V_il1n dX9_loss_23 ?_
    refine V_iald (k := m) kk82 (by decide) (by first | rfl | omega) (by omega) (by first | decide | assumption | omega) hJ dX9_loss_24 ?_
    refine V_il3n dX9_loss_25 ?_
    refine V_imul dX9_loss_26 ?_
    refine V_goto (tgt := 36) dX9_loss_27 rfl ?_
    exact V_ireturn rfl ⟨by unfold lsJ; first | (rw [if_pos (by omega), hl (by omega)]) | (rw [if_neg (by omega)]), rfl, rfl, rfl⟩ dX9_loss_36
theorem bit_lt {n m : Nat} {so : Int} (h0 : 0 ≤ so) (h : so < 2 ^ n) (hb : so / 2 ^ m % 2 = 1) : m < n := by
  by_cases c : m < n
  · exact c
  · have h2 : (2 : Int) ^ n ≤ 2 ^ m := by
      have : (2 : Nat) ^ n ≤ 2 ^ m := Nat.pow_le_pow_right (by omega) (by omega)
      exact_mod_cast this
    rw [Int.ediv_eq_zero_of_lt h0 (by omega)] at hb
    omega
/-- what the class's turn has -/
def TQ (T : TT) (so : Nat) (J W : Nat → Int) (f : IT) : Prop := (so < 32 ∧ (so : Int) < 2 ^ nMe T ∧ nMe T ≤ 5) ∧ TJ so (nMe T) J W f ∧ ∀ m, (0 ≤ J m ∧ J m ≤ 999) ∧ (0 ≤ W m ∧ W m ≤ 999)
theorem w_xrest (hρ : Fx ρ) {so : Nat} {J W : Nat → Int} (hq : TQ T so J W f) {i : Nat} (hi : i < 32) {Q : QT} (hQ : Q (some (.int (iz (bz (rsJ (nMe T) (so : Int) J W i))))) ρ f g) (m : Nat) (hm : m ≤ 5) (hb : ∀ j, j < m → (so : Int) / 2 ^ j % 2 = 1 → lsJ J W j (i : Int) ≤ lsJ J W j ((i ^^^ 2 ^ j : Nat) : Int)) :
    V_X9_isRest Q 12 [.ref 81, .int (iz (i : Int)), .int (iz (m : Int)), .null] [] ρ f g := by
  obtain ⟨⟨s1, s2, s3⟩, ⟨j0, hJ⟩, hR⟩ := hq
  have hq : TQ T so J W f := ⟨⟨s1, s2, s3⟩, ⟨j0, hJ⟩, hR⟩
  by_cases e : m = 5
  · subst e
    have : rsJ (nMe T) (so : Int) J W i = true := by unfold rsJ; simp only [decide_eq_true_eq]; exact fun m h1 h2 => hb m (by omega) h2
    rw [this] at hQ
    refine V_il2n dX9_isRest_12 ?_
    refine V_iconst dX9_isRest_13 ?_
    refine V_icmp_ge (tgt := 65) dX9_isRest_14 rfl (by unfold ri; omega) (by unfold ri; omega) (fun b14 => ?_) (fun b14 => ?_)
    · refine V_iconst dX9_isRest_65 ?_
      exact V_zreturn rfl (by first | exact Or.inl rfl | exact Or.inr rfl | (unfold bz; split <;> simp)) hQ dX9_isRest_66
    · exfalso; omega
  · have hx := xor_lt hi (m := m) (by omega)
    have h2 : (2 : Nat) ^ m < 2 ^ 5 := Nat.pow_lt_pow_right (by omega) (by omega)
    have hbit : (so : Int) / 2 ^ m % 2 = 0 ∨ (so : Int) / 2 ^ m % 2 = 1 := by omega
    have l1 := lsJ_ri (J := J) (W := W) (m := m) (i := (i : Int)) (hR m)
    have l2 := lsJ_ri (J := J) (W := W) (m := m) (i := ((i ^^^ 2 ^ m : Nat) : Int)) (hR m)
    have hml : (so : Int) / 2 ^ m % 2 = 1 → m < nMe T := bit_lt (by omega) s2
    refine V_il2n dX9_isRest_12 ?_
    refine V_iconst dX9_isRest_13 ?_
    refine V_icmp_ge (tgt := 65) dX9_isRest_14 rfl (by unfold ri; omega) (by unfold ri; omega) (fun b14 => ?_) (fun b14 => ?_)
    · exfalso; omega
    · refine V_al0n dX9_isRest_17 ?_
      refine V_getI kk81 (by decide) fl_X9_9 j0 dX9_isRest_18 ?_
      refine V_il2n dX9_isRest_21 ?_
      refine V_ishr dX9_isRest_22 (iz_shr (by unfold ri; omega) (by omega : m < 32)) ?_
      refine V_iconst dX9_isRest_23 ?_
      refine V_iand dX9_isRest_24 (iz_and1 _) ?_
      refine V_if_eq (tgt := 32) dX9_isRest_25 rfl (by unfold ri; omega) (fun b25 => ?_) (fun b25 => ?_)
      · refine V_iconst dX9_isRest_32 ?_
        refine V_is3n dX9_isRest_33 (by decide) rfl ?_
        refine V_il3n dX9_isRest_34 ?_
        refine V_if_eq (tgt := 59) dX9_isRest_35 rfl (by unfold ri; decide) (fun b35 => ?_) (fun b35 => by exfalso; revert b35; decide)
        refine V_inc2 dX9_isRest_59 (by decide) rfl ?_
        refine V_goto (tgt := 12) dX9_isRest_62 rfl ?_
        exact V_weak (by repeat (first | exact wk_n | refine wk_c (Or.inr rfl) ?_ | refine wk_c (Or.inl rfl) ?_)) (w_xrest hρ hq hi hQ (m + 1) (by omega) (fun j hj hh => by by_cases eq : j = m; (subst eq; omega); exact hb j (by omega) hh))
      · have hm1 : (so : Int) / 2 ^ m % 2 = 1 := by omega
        have hJm := hJ m (hml hm1)
        refine V_iconst dX9_isRest_28 ?_
        refine V_goto (tgt := 33) dX9_isRest_29 rfl ?_
        refine V_is3n dX9_isRest_33 (by decide) rfl ?_
        refine V_il3n dX9_isRest_34 ?_
        refine V_if_eq (tgt := 59) dX9_isRest_35 rfl (by unfold ri; decide) (fun b35 => by exfalso; revert b35; decide) (fun b35 => ?_)
        refine V_al0n dX9_isRest_38 ?_
        refine V_il2n dX9_isRest_39 ?_
        refine V_il1n dX9_isRest_40 ?_
        refine V_iconst dX9_isRest_41 ?_
        refine V_il2n dX9_isRest_42 ?_
        refine V_ishl dX9_isRest_43 (iz_shlE (b := m) (v := ((2 ^ m : Nat) : Int)) rfl (by omega) (by simp)) ?_
        refine V_ixor dX9_isRest_44 ((iz_xor _ _).trans (by rw [U_nat (by omega), U_nat (by omega)])) ?_
        refine V_callV (as := [_, _]) ml_X9_32 im_X9_loss se_X9_loss kk81 (by decide) (by decide) dX9_isRest_45 rfl rfl (by decide) (by decide) (Nat.le_of_ble_eq_true rfl) (by decide) (by decide) rfl (c_loss hρ (J := J) (W := W) (m := m) (by omega) hx hJm.1 hJm.2) ?_
        refine pq4 ?_
        refine V_al0n dX9_isRest_48 ?_
        refine V_il2n dX9_isRest_49 ?_
        refine V_il1n dX9_isRest_50 ?_
        refine V_callV (as := [_, _]) ml_X9_32 im_X9_loss se_X9_loss kk81 (by decide) (by decide) dX9_isRest_51 rfl rfl (by decide) (by decide) (Nat.le_of_ble_eq_true rfl) (by decide) (by decide) rfl (c_loss hρ (J := J) (W := W) (m := m) (by omega) hi hJm.1 hJm.2) ?_
        refine pq4 ?_
        refine V_icmp_ge (tgt := 59) dX9_isRest_54 rfl (by unfold ri; omega) (by unfold ri; omega) (fun b54 => ?_) (fun b54 => ?_)
        · refine V_inc2 dX9_isRest_59 (by decide) rfl ?_
          refine V_goto (tgt := 12) dX9_isRest_62 rfl ?_
          exact V_weak (by repeat (first | exact wk_n | refine wk_c (Or.inr rfl) ?_ | refine wk_c (Or.inl rfl) ?_)) (w_xrest hρ hq hi hQ (m + 1) (by omega) (fun j hj hh => by by_cases eq : j = m; (subst eq; omega); exact hb j (by omega) hh))
        · refine V_iconst dX9_isRest_57 ?_
          exact V_zreturn rfl (by first | exact Or.inl rfl | exact Or.inr rfl | (unfold bz; split <;> simp)) (by have hf : rsJ (nMe T) (so : Int) J W i = false := (by unfold rsJ; simp only [decide_eq_false_iff_not]; intro hall; have := hall m (hml hm1) hm1; omega); rw [hf] at hQ; exact hQ) dX9_isRest_58
termination_by 5 - m
theorem c_xrest (hρ : Fx ρ) {so : Nat} {J W : Nat → Int} (hq : TQ T so J W f) {i : Nat} (hi : i < 32) : C_X9_isRest [.ref 81, .int (iz (i : Int))] ρ f g (fun r ρ' f' g' => r = some (.int (iz (bz (reJ (nMe T) so J W i)))) ∧ ρ' = ρ ∧ f' = f ∧ g' = g) := by
  refine Ct.ofV (by decide) rfl (Nat.le_of_ble_eq_true rfl) ?_
  unfold reJ
  cases z : sbJ i so with
  | false =>
    rw [Bool.false_and]
    refine V_al0n dX9_isRest_0 ?_
    refine V_il1n dX9_isRest_1 ?_
    refine V_callV (as := [_]) ml_X9_28 im_X9_isOf se_X9_isOf kk81 (by decide) (by decide) dX9_isRest_2 rfl rfl (by decide) (by decide) (Nat.le_of_ble_eq_true rfl) (by decide) (by decide) rfl (c_xisOf hq.1.1 hi hq.2.1.1) ?_
    refine pq4 ?_
    refine V_bf (tgt := 10) dX9_isRest_5 rfl (fun b5 => ?_) (fun b5 => ?_)
    · rw [z] at b5; cases b5
    · refine V_iconst dX9_isRest_8 ?_
      exact V_zreturn rfl (by first | exact Or.inl rfl | exact Or.inr rfl | (unfold bz; split <;> simp)) ⟨rfl, rfl, rfl, rfl⟩ dX9_isRest_9
  | true =>
    rw [Bool.true_and]
    refine V_al0n dX9_isRest_0 ?_
    refine V_il1n dX9_isRest_1 ?_
    refine V_callV (as := [_]) ml_X9_28 im_X9_isOf se_X9_isOf kk81 (by decide) (by decide) dX9_isRest_2 rfl rfl (by decide) (by decide) (Nat.le_of_ble_eq_true rfl) (by decide) (by decide) rfl (c_xisOf hq.1.1 hi hq.2.1.1) ?_
    refine pq4 ?_
    refine V_bf (tgt := 10) dX9_isRest_5 rfl (fun b5 => ?_) (fun b5 => ?_)
    · refine V_iconst dX9_isRest_10 ?_
      refine V_is2n dX9_isRest_11 (by decide) rfl ?_
      exact w_xrest hρ hq hi ⟨rfl, rfl, rfl, rfl⟩ 0 (by omega) (fun j hj => by omega)
    · rw [z] at b5; cases b5
theorem sumTo_ext {s : Nat → Int} {n : Nat} : ∀ k, (∀ m, n ≤ m → m < n + k → s m = 0) → sumTo s (n + k) = sumTo s n
  | 0, _ => rfl
  | k + 1, h => by
    show sumTo s (n + k) + s (n + k) = _
    rw [sumTo_ext k (fun m h1 h2 => h m h1 (by omega)), h (n + k) (by omega) (by omega)]
    omega
theorem w_xsum (hρ : Fx ρ) {so : Nat} {J W : Nat → Int} (hq : TQ T so J W f) {i : Nat} (hi : i < 32) {Q : QT} (hQ : Q (some (.int (iz (smJ (nMe T) (so : Int) J W (i : Int))))) ρ f g) (m : Nat) (hm : m ≤ 5) :
    V_X9_sum Q 4 [.ref 81, .int (iz (i : Int)), .int (iz (sumTo (fun m => if (so : Int) / 2 ^ m % 2 = 1 then lsJ J W m (i : Int) else 0) m)), .int (iz (m : Int))] [] ρ f g := by
  obtain ⟨⟨s1, s2, s3⟩, ⟨j0, hJ⟩, hR⟩ := hq
  have hq : TQ T so J W f := ⟨⟨s1, s2, s3⟩, ⟨j0, hJ⟩, hR⟩
  by_cases e : m = 5
  · subst e
    have : sumTo (fun m => if (so : Int) / 2 ^ m % 2 = 1 then lsJ J W m (i : Int) else 0) 5 = smJ (nMe T) (so : Int) J W (i : Int) := by
      have := sumTo_ext (s := fun m => if (so : Int) / 2 ^ m % 2 = 1 then lsJ J W m (i : Int) else 0) (n := nMe T) (5 - nMe T) (fun m h1 h2 => by
        rw [if_neg]
        intro hb
        have := bit_lt (by omega) s2 hb
        omega)
      rw [show nMe T + (5 - nMe T) = 5 by omega] at this
      exact this
    rw [this]
    refine V_il3n dX9_sum_4 ?_
    refine V_iconst dX9_sum_5 ?_
    refine V_icmp_ge (tgt := 39) dX9_sum_6 rfl (by unfold ri; omega) (by unfold ri; omega) (fun b6 => ?_) (fun b6 => ?_)
    · refine V_il2n dX9_sum_39 ?_
      exact V_ireturn rfl hQ dX9_sum_40
    · exfalso; omega
  · have hbit : (so : Int) / 2 ^ m % 2 = 0 ∨ (so : Int) / 2 ^ m % 2 = 1 := by omega
    have hml : (so : Int) / 2 ^ m % 2 = 1 → m < nMe T := bit_lt (by omega) s2
    have hx := w_xsum hρ hq hi hQ (m + 1) (by omega)
    simp only [sumTo] at hx
    refine V_il3n dX9_sum_4 ?_
    refine V_iconst dX9_sum_5 ?_
    refine V_icmp_ge (tgt := 39) dX9_sum_6 rfl (by unfold ri; omega) (by unfold ri; omega) (fun b6 => ?_) (fun b6 => ?_)
    · exfalso; omega
    · refine V_il2n dX9_sum_9 ?_
      refine V_al0n dX9_sum_10 ?_
      refine V_getI kk81 (by decide) fl_X9_9 j0 dX9_sum_11 ?_
      refine V_il3n dX9_sum_14 ?_
      refine V_ishr dX9_sum_15 (iz_shr (by unfold ri; omega) (by omega : m < 32)) ?_
      refine V_iconst dX9_sum_16 ?_
      refine V_iand dX9_sum_17 (iz_and1 _) ?_
      refine V_if_eq (tgt := 30) dX9_sum_18 rfl (by unfold ri; omega) (fun b18 => ?_) (fun b18 => ?_)
      · rw [if_neg (by omega)] at hx
        refine V_iconst dX9_sum_30 ?_
        refine V_iadd dX9_sum_31 ?_
        refine V_is2n dX9_sum_32 (by decide) rfl ?_
        refine V_inc3 dX9_sum_33 (by decide) rfl ?_
        refine V_goto (tgt := 4) dX9_sum_36 rfl ?_
        exact hx
      · have hm1 : (so : Int) / 2 ^ m % 2 = 1 := by omega
        rw [if_pos hm1] at hx
        have hJm := hJ m (hml hm1)
        refine V_al0n dX9_sum_21 ?_
        refine V_il3n dX9_sum_22 ?_
        refine V_il1n dX9_sum_23 ?_
        refine V_callV (as := [_, _]) ml_X9_32 im_X9_loss se_X9_loss kk81 (by decide) (by decide) dX9_sum_24 rfl rfl (by decide) (by decide) (Nat.le_of_ble_eq_true rfl) (by decide) (by decide) rfl (c_loss hρ (J := J) (W := W) (m := m) (by omega) hi hJm.1 hJm.2) ?_
        refine pq4 ?_
        refine V_goto (tgt := 31) dX9_sum_27 rfl ?_
        refine V_iadd dX9_sum_31 ?_
        refine V_is2n dX9_sum_32 (by decide) rfl ?_
        refine V_inc3 dX9_sum_33 (by decide) rfl ?_
        refine V_goto (tgt := 4) dX9_sum_36 rfl ?_
        exact hx
termination_by 5 - m
theorem c_xsum (hρ : Fx ρ) {so : Nat} {J W : Nat → Int} (hq : TQ T so J W f) {i : Nat} (hi : i < 32) : C_X9_sum [.ref 81, .int (iz (i : Int))] ρ f g (fun r ρ' f' g' => r = some (.int (iz (smJ (nMe T) (so : Int) J W (i : Int)))) ∧ ρ' = ρ ∧ f' = f ∧ g' = g) := by
  refine Ct.ofV (by decide) rfl (Nat.le_of_ble_eq_true rfl) ?_
  refine V_iconst dX9_sum_0 ?_
  refine V_is2n dX9_sum_1 (by decide) rfl ?_
  refine V_iconst dX9_sum_2 ?_
  refine V_is3n dX9_sum_3 (by decide) rfl ?_
  exact w_xsum hρ hq hi ⟨rfl, rfl, rfl, rfl⟩ 0 (by omega)
end CCORN

