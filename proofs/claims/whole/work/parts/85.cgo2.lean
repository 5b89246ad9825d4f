section GO2
variable {T : TT} {b : Nat} {ρ : RT} {f : IT} {g : JT} {φ : IT} {γ : JT}
theorem stF_137 {i : Nat} : stF T φ γ 137 i = if i = 3 then (xsF T φ γ).1.2.2.1 else if i = 2 then (xsF T φ γ).1.2.1 else if i = 1 then (xsF T φ γ).1.1 else if i = 0 then (xsF T φ γ).1.2.2.2 else if i = 4 then φ 137 4 + (if slp T (raF φ) (lat T (φ 137 0)) (φ 137 6).toNat (γ 104 69) = true then 1 else 0) else φ 137 i := by
  unfold stF
  simp only [u2, true_and]
  by_cases c3 : i = 3
  · simp [c3]
  by_cases c2 : i = 2
  · simp [c2]
  by_cases c1 : i = 1
  · simp [c1]
  by_cases c0 : i = 0
  · simp [c0]
  simp only [if_neg c3, if_neg c2, if_neg c1, if_neg c0]
  by_cases z : slp T (raF φ) (lat T (φ 137 0)) (φ 137 6).toNat (γ 104 69) = true
  · rw [if_pos z, if_pos z]
    by_cases c4 : i = 4
    · rw [c4, u2_s, if_pos rfl]
    · rw [u2_o (by omega), if_neg c4]
      exact remF_o (by omega) (by omega)
  · rw [if_neg z, if_neg z]
    by_cases c4 : i = 4
    · rw [if_pos c4, c4, remF_o (by omega) (by omega)]; omega
    · rw [if_neg c4]
      exact remF_o (by omega) (by omega)
theorem stF_ot {a k : Nat} (h3 : a ≠ 137) : stF T φ γ a k = remF (γ 104 69) φ a k := by
  unfold stF
  rw [u2_o (by omega), u2_o (by omega), u2_o (by omega), u2_o (by omega)]
  split
  · rw [u2_o (by omega)]
  · rfl
/-- what go leaves beside the racer -/
def GOf (b : Nat) (ρ : RT) (f : IT) (g : JT) (ρ' : RT) (f' : IT) (g' : JT) : Prop := (∀ a k, a ≠ 63 → ρ' a k = ρ a k) ∧ (∀ a k, ¬ rcC a k → ¬ (55 ≤ a ∧ a ≤ 61) → f' a k = f a k) ∧ (∀ a, a ≠ 60 → a ≠ b + 22 → a ≠ b + 23 → ¬ (62 ≤ a ∧ a ≤ 64) → ¬ (84 ≤ a ∧ a ≤ 103) → g' a = g a)
theorem GOf.tr {b : Nat} {ρ ρ' ρ'' : RT} {f f' f'' : IT} {g g' g'' : JT} (h : GOf b ρ f g ρ' f' g') (h' : GOf b ρ' f' g' ρ'' f'' g'') : GOf b ρ f g ρ'' f'' g'' := ⟨fun a k q => (h'.1 a k q).trans (h.1 a k q), fun a k q r => (h'.2.1 a k q r).trans (h.2.1 a k q r), fun a q1 q2 q3 q4 q5 => (h'.2.2 a q1 q2 q3 q4 q5).trans (h.2.2 a q1 q2 q3 q4 q5)⟩
theorem TW.cg {ρ' : RT} (h : TW T b ρ) (e : ∀ a k, a ≠ 63 → ¬ (a = 66 ∧ 2 ≤ k) → ρ' a k = ρ a k) : TW T b ρ' := ⟨h.1.cg (fun a k q1 q2 _ _ => e a k q1 q2), h.2.1, (e 0 3 (by omega) (by omega)).trans h.2.2.1, (e 55 0 (by omega) (by omega)).trans h.2.2.2.1, h.2.2.2.2⟩
theorem w_go35 {Q : QT} {ρ0 : RT} {f0 : IT} {g0 : JT} {n m : Nat} (hn : n ≤ 120) {ra : Bool} {sk : Int} (hsk : 0 ≤ sk ∧ sk ≤ 30) (hm : m < nMe T) {N : Nat × IT × JT}
    (hQ : ∀ ρ f g, TW T b ρ → CT T b f → GI T false ra f g → (∀ k, f 55 k = f0 55 k) → GOf b ρ0 f0 g0 ρ f g → RSm T ρ f g N.2.1 N.2.2 → Q (some (.int (iz (N.1 : Int)))) ρ f g)
    (hE : ∀ F : IT, (∀ k, F 55 k = f0 55 k) → GE T (c0 T ra sk m) F)
    (i : Nat) (hi : i ≤ n) (ρ : RT) (f : IT) (g : JT) (φ : IT) (γ : JT) (hW : TW T b ρ) (hC : CT T b f) (hG : GI T false ra f g) (h55 : ∀ k, f 55 k = f0 55 k) (hF : GOf b ρ0 f0 g0 ρ f g) (hS : RSm T ρ f g φ γ) (e78 : φ 104 78 = 1) (e79 : φ 104 79 = (m : Int)) (e67 : φ 104 67 = sk) (e68 : φ 104 68 = bz ra) (hN : N = (i + (goN T (n - i) φ γ).1, (goN T (n - i) φ γ).2)) :
    V_X11_go Q 35 [.ref 0, .int (iz (n : Int)), .int (iz (i : Int))] [] ρ f g := by
  have hk := hW.2.2.2.2.1
  have hb := hW.2.1
  have hρ := hW.1
  have h6 := hk.la
  have hgC := hS.gC hW hC
  by_cases c : i < n ∧ going T φ = true
  · obtain ⟨c1, c2⟩ := c
    rw [show n - i = (n - (i + 1)) + 1 by omega, goN, if_pos c2] at hN
    have hrem := c_cremember hρ hS e78
    have hS0 := hS
    obtain ⟨h1, h2, h3, h4, h5, h6', h7, h8⟩ := hS
    obtain ⟨q1, q2, q3, q4, q5, q6, q7, q8, q9, q10, q11, q12, k, v, q13, q14, q15⟩ := h1.2.2.2.2 e78
    have hgo := c2
    unfold going at hgo
    simp at hgo
    have hkl : k < nLa T := (q13.go hk).1.mpr hgo.2
    obtain ⟨w1, w2, w3, w4, w5, w6, w7⟩ := q1
    obtain ⟨h, hh⟩ : ∃ h : Nat, φ 137 6 = (h : Int) := ⟨(φ 137 6).toNat, by omega⟩
    obtain ⟨p, hp⟩ : ∃ p : Nat, φ 104 80 = (p : Int) := ⟨(φ 104 80).toNat, by omega⟩
    have hma := hk.man hm
    rw [e79, Int.toNat_natCast] at w4 q7
    have hvr : 0 ≤ v ∧ v ≤ 1000 := by
      rcases q13.2 with z | z
      · have := hk.lane z.1; omega
      · omega
    have era : raF φ = ra := by unfold raF; rw [e68]; cases ra <;> rfl
    have elat := q13.lat hk
    have epa : wPa T p k (φ 137 5) = rpF T φ := by unfold wPa rpF; rw [elat, hp, Int.toNat_natCast]
    have eX : xsF T φ γ = stX T (c0 T ra sk m) k h (wPa T p k (φ 137 5)) true ((φ 137 1, φ 137 2, φ 137 3, φ 137 0), γ 104 69) := by
      unfold xsF stX
      rw [if_pos rfl, era, e67, e79, elat, hh, epa, Int.toNat_natCast, Int.toNat_natCast]
    have eN : stN T (c0 T ra sk m) k h true (γ 104 69) = if slp T (raF φ) (lat T (φ 137 0)) (φ 137 6).toNat (γ 104 69) = true then 1 else 0 := by
      unfold stN
      rw [era, elat, hh, Int.toNat_natCast]
      simp
      rfl
    have stw := stF_rw (f := φ) (g := γ) hk (by rw [e67]; exact hsk) ⟨w1, w2, w3, by rw [e79, Int.toNat_natCast]; exact w4, w5, w6, w7⟩ hgo.2 hgo.1.2
    refine V_il2n dX11_go_35 ?_
    refine V_il1n dX11_go_36 ?_
    refine V_icmp_ge (tgt := 76) dX11_go_37 rfl (by first | assumption | (unfold ri at *; omega)) (by first | assumption | (unfold ri at *; omega)) (fun b37 => ?_) (fun b37 => ?_)
    · exfalso; omega
    · refine V_al0n dX11_go_40 ?_
      refine V_getR kk0 (by decide) fl_X11_55 (fx_0_8 hρ) dX11_go_41 ?_
      refine V_al0n dX11_go_44 ?_
      refine V_getR kk0 (by decide) fl_X11_29 hW.2.2.1 dX11_go_45 ?_
      refine V_callV (as := [_]) ml_X11_226 im_X10_isGoing se_X10_isGoing kk62 (by decide) (by decide) dX11_go_48 rfl rfl (by decide) (by decide) (Nat.le_of_ble_eq_true rfl) (by decide) (by decide) rfl (hgC) ?_
      refine pq4 ?_
      refine V_bt (tgt := 76) dX11_go_51 rfl (fun b51 => ?_) (fun b51 => ?_)
      · rw [c2] at b51; cases b51
      · refine V_al0n dX11_go_54 ?_
        refine V_callV (as := []) ml_X11_230 im_X11_remember se_X11_remember kk0 (by decide) (by decide) dX11_go_55 rfl rfl (by decide) (by decide) (Nat.le_of_ble_eq_true rfl) (by decide) (by decide) rfl (hrem) ?_
        rintro r55 ρ55 f55 g55 ⟨rfl, r1, r2, r3, r4⟩
        have hW2 : TW T b ρ55 := hW.cg (fun a k q _ => r2 a k q)
        have hρ2 := hW2.1
        have hC2 : CT T b f55 := hC.cg hb (fun a k q1 q2 => r3 a k (by omega) (by omega))
        have hG2 : GI T false ra f55 g55 := hG.cg (fun a k q1 q2 => r3 a k (by omega) (by omega)) (r4 60 (by omega))
        have h552 : ∀ k, f55 55 k = f0 55 k := fun k => (r3 55 k (by omega) (by omega)).trans (h55 k)
        have hF2 : GOf b ρ0 f0 g0 ρ55 f55 g55 := ⟨fun a k q => (r2 a k q).trans (hF.1 a k q), fun a k q1 q2 => (r3 a k (fun z => q1 (Or.inr (Or.inl z))) (fun z => q1 (Or.inr (Or.inr ⟨z.1, by omega⟩)))).trans (hF.2.1 a k q1 q2), fun a q1 q2 q3 q4 q5 => (r4 a q5).trans (hF.2.2 a q1 q2 q3 q4 q5)⟩
        have f62 : ∀ j, f55 62 j = f 62 j := fun j => r3 62 j (by omega) (by omega)
        have g62 : g55 62 14 = γ 104 69 := by rw [r4 62 (by omega)]; exact h1.2.1
        have hWK : WK T 62 (c0 T ra sk m) h p k (φ 137 5) v ((φ 137 1, φ 137 2, φ 137 3, φ 137 0), γ 104 69) f55 g55 := by
          unfold WK WS
          rw [f62 6, f62 4, f62 9, f62 7, f62 8, f62 12, f62 13, f62 3, f62 2, f62 5, f62 10]
          exact ⟨⟨q7, by rw [q5, hh, Int.toNat_natCast], q10, q8, q9⟩, g62, q14, q15, q4.trans hh, q3.trans hp, q6, q11⟩
        have hst := c_wstep (sl := true) hρ2 hW2.2.2.2.1 hb hk hW.2.2.2.2.2 (w := 62) rfl (by omega) (c0_ok hk hm (ra := ra) hsk).1 hkl (h := h) (p := p) (by omega) (by omega) w6 hvr hC2 hG2 (hE f55 h552) hWK ⟨by simp only; omega, by simp only; omega⟩ (by simp only; omega) (by simp only; omega)
        rw [← eX, eN] at hst
        refine V_al0n dX11_go_58 ?_
        refine V_getR kk0 (by decide) fl_X11_55 (fx_0_8 hρ2) dX11_go_59 ?_
        refine V_al0n dX11_go_62 ?_
        refine V_getR kk0 (by decide) fl_X11_48 (fx_0_7 hρ2) dX11_go_63 ?_
        refine V_iconst dX11_go_66 ?_
        refine V_callV (as := [_, _]) ml_X11_233 im_X10_step se_X10_step kk62 (by decide) (by decide) dX11_go_67 rfl rfl (by decide) (by decide) (Nat.le_of_ble_eq_true rfl) (by decide) (by decide) rfl (hst) ?_
        rintro r67 ρ67 f67 g67 ⟨rfl, s67_0, t1, t2, t3, t4, t5, t6⟩
        obtain rfl := s67_0.symm
        refine V_inc2 dX11_go_70 (by decide) rfl ?_
        refine V_goto (tgt := 35) dX11_go_73 rfl ?_
        obtain ⟨⟨u6, u4, u9, u7, u8⟩, u14, u12, u13, u3, u2_, u5, u10⟩ := t4
        have ed : (xsF T φ γ).2 = nxt (γ 104 69) := by rw [eX]; unfold stX onS; rw [if_pos rfl]
        rw [ed] at u14
        have hnr := nxt_rng (γ 104 69)
        have r1W := r1.1
        have x11 : f55 62 11 = φ 137 4 := (f62 11).trans q12
        have hwr : WR T 62 (stF T φ γ 104 78) (stF T φ γ 104 79) (stF T φ γ 104 80) (stF T φ γ 137) (stG γ 104 69) f67 g67 := by
          unfold stG
          rw [u2_s]
          have s78 : stF T φ γ 104 78 = 1 := (stF_ot (by omega)).trans ((remF_o (by omega) (by omega)).trans e78)
          have s79 : stF T φ γ 104 79 = φ 104 79 := (stF_ot (by omega)).trans (remF_o (by omega) (by omega))
          have s80 : stF T φ γ 104 80 = φ 104 80 := (stF_ot (by omega)).trans (remF_o (by omega) (by omega))
          rw [s78]
          refine ⟨t6.1.trans ((f62 0).trans (h1.1.trans e78)), u14, Or.inr rfl, hnr, fun _ => ⟨stw, ?_, ?_, ?_, ?_, ?_, ?_, ?_, ?_, ?_, ?_, ?_, _, _, ?_, u12, u13⟩⟩
          · rw [s79, t6.2, f62 1]; exact q2
          · rw [s80, u2_, hp]
          · rw [stF_137]; simp; rw [u3, hh]
          · rw [stF_137]; simp; rw [u4, hh, Int.toNat_natCast]
          · rw [stF_137]; simp; exact u5
          · rw [s79, e79, Int.toNat_natCast]; exact u6
          · rw [stF_137]; simp; exact u7
          · rw [stF_137]; simp; exact u8
          · rw [stF_137]; simp; exact u9
          · rw [stF_137]; simp; exact u10
          · rw [stF_137]; simp; rw [t5, x11]
          · rw [stF_137]
            simp
            have e0 : (xsF T φ γ).1.2.2.2 = φ 137 0 + 1 := by rw [eX]; unfold stX onS; rw [if_pos rfl]; split <;> rfl
            rw [e0]
            exact q13.nx hk hkl
        have hS2 : RSm T ρ55 f67 g67 (stF T φ γ) (stG γ) := by
          refine r1.racer hwr (fun a j q1 q2 => t3.1 a j (by unfold rcC at q1; omega) q2) (fun a j q1 q2 => by rw [t3.2 a (by unfold rcC at q1; omega) (by unfold rcC at q1; omega) (by unfold rcC at q1; omega) q2]) (fun j hj => stF_ot (by omega)) (stF_ot (by omega)) (by funext j; exact stF_ot (by omega)) (by funext j; exact stF_ot (by omega)) ?_
          unfold stG
          rw [u2_o (by omega)]
        have h553 : ∀ j, f67 55 j = f0 55 j := fun j => (t3.1 55 j (by omega) (by omega)).trans (h552 j)
        have hF3 : GOf b ρ0 f0 g0 ρ55 f67 g67 := ⟨hF2.1, fun a j q1 q2 => (t3.1 a j (by omega) (fun z => q1 (Or.inl (by omega)))).trans (hF2.2.1 a j q1 q2), fun a q1 q2 q3 q4 q5 => (t3.2 a q1 q2 q3 (by omega)).trans (hF2.2.2 a q1 q2 q3 q4 q5)⟩
        refine V_weak (by repeat (first | exact wk_n | refine wk_c (Or.inr rfl) ?_ | refine wk_c (Or.inl rfl) ?_)) (w_go35 hn hsk hm hQ hE (i + 1) (by omega) ρ55 f67 g67 (stF T φ γ) (stG γ) hW2 t1 t2 h553 hF3 hS2 ((stF_ot (by omega)).trans ((remF_o (by omega) (by omega)).trans e78)) ((stF_ot (by omega)).trans ((remF_o (by omega) (by omega)).trans e79)) ((stF_ot (by omega)).trans ((remF_o (by omega) (by omega)).trans e67)) ((stF_ot (by omega)).trans ((remF_o (by omega) (by omega)).trans e68)) ?_)
        rw [hN]
        congr 1
        omega
  · have eN : N = (i, φ, γ) := by
      rw [hN]
      rcases Nat.eq_zero_or_pos (n - i) with z | z
      · rw [z, goN]; rfl
      · have : ¬ going T φ = true := fun q => c ⟨by omega, q⟩
        rw [show n - i = (n - i - 1) + 1 by omega, goN, if_neg this]
        rfl
    have fin := hQ ρ f g hW hC hG h55 hF
    rw [eN] at fin
    refine V_il2n dX11_go_35 ?_
    refine V_il1n dX11_go_36 ?_
    refine V_icmp_ge (tgt := 76) dX11_go_37 rfl (by first | assumption | (unfold ri at *; omega)) (by first | assumption | (unfold ri at *; omega)) (fun b37 => ?_) (fun b37 => ?_)
    · refine V_il2n dX11_go_76 ?_
      exact V_ireturn rfl (fin hS) dX11_go_77
    · refine V_al0n dX11_go_40 ?_
      refine V_getR kk0 (by decide) fl_X11_55 (fx_0_8 hρ) dX11_go_41 ?_
      refine V_al0n dX11_go_44 ?_
      refine V_getR kk0 (by decide) fl_X11_29 hW.2.2.1 dX11_go_45 ?_
      refine V_callV (as := [_]) ml_X11_226 im_X10_isGoing se_X10_isGoing kk62 (by decide) (by decide) dX11_go_48 rfl rfl (by decide) (by decide) (Nat.le_of_ble_eq_true rfl) (by decide) (by decide) rfl (hgC) ?_
      refine pq4 ?_
      refine V_bt (tgt := 76) dX11_go_51 rfl (fun b51 => ?_) (fun b51 => ?_)
      · refine V_il2n dX11_go_76 ?_
        exact V_ireturn rfl (fin hS) dX11_go_77
      · exact absurd ⟨by omega, b51⟩ c
termination_by n - i
theorem c_go (hW : TW T b ρ) (hC : CT T b f) {fl0 ra0 : Bool} (hG : GI T fl0 ra0 f g) (h5 : f 55 5 < 1000000) (hS : RSm T ρ f g φ γ) {n : Int} (rn_ : ri n) : C_X11_go [.ref 0, .int (iz n)] ρ f g (fun r ρ' f' g' => r = some (.int (iz (goA T n φ γ))) ∧ TW T b ρ' ∧ RSm T ρ' f' g' (goF T n φ γ) (goG T n φ γ) ∧ (∃ fl ra, GI T fl ra f' g') ∧ AG 1 f f' ∧ GOf b ρ f g ρ' f' g') := by
  have hk := hW.2.2.2.2.1
  have hb := hW.2.1
  have hρ := hW.1
  have h1 := hS.1
  have h7 := hS.2.2.2.2.2.2.1
  have h8 := hS.2.2.2.2.2.2.2
  refine Ct.ofV (by decide) rfl (Nat.le_of_ble_eq_true rfl) ?_
  by_cases c : φ 104 78 = 1 ∧ 0 ≤ n ∧ n ≤ 120
  · obtain ⟨c1, c2⟩ := c
    obtain ⟨nN, rfl⟩ : ∃ k : Nat, n = k := ⟨n.toNat, by omega⟩
    have ec : (decide (φ 104 78 = 1) && zin (nN : Int) 0 120) = true := by unfold zin; simp; omega
    have ea : goA T (nN : Int) φ γ = ((goN T nN φ γ).1 : Int) := by unfold goA; rw [if_pos ec, Int.toNat_natCast]
    have ef : goF T (nN : Int) φ γ = (goN T nN φ γ).2.1 := by unfold goF; rw [if_pos ec, Int.toNat_natCast]
    have eg : goG T (nN : Int) φ γ = (goN T nN φ γ).2.2 := by unfold goG; rw [if_pos ec, Int.toNat_natCast]
    rw [ea, ef, eg]
    obtain ⟨q1, q2, -⟩ := h1.2.2.2.2 c1
    obtain ⟨m, hm⟩ : ∃ m : Nat, φ 104 79 = (m : Int) := ⟨(φ 104 79).toNat, by have := q1.1; omega⟩
    have hmm : m < nMe T := by have := q1.1; omega
    obtain ⟨ra, hra⟩ : ∃ ra : Bool, φ 104 68 = bz ra := by
      rcases h8.2 with z | z
      · exact ⟨false, z⟩
      · exact ⟨true, z⟩
    have x0 : f 62 0 = 1 := h1.1.trans c1
    have x1 : f 62 1 = (m : Int) := q2.trans hm
    refine V_al0n dX11_go_0 ?_
    refine V_getR kk0 (by decide) fl_X11_55 (fx_0_8 hρ) dX11_go_1 ?_
    refine V_getZ kk62 (by decide) fl_X11_122 x0 dX11_go_4 ?_
    refine V_if_eq (tgt := 20) dX11_go_7 rfl (by first | assumption | (unfold ri at *; omega)) (fun b7 => ?_) (fun b7 => ?_)
    · exfalso; omega
    · refine V_il1n dX11_go_10 ?_
      refine V_if_lt (tgt := 20) dX11_go_11 rfl (by first | assumption | (unfold ri at *; omega)) (fun b11 => ?_) (fun b11 => ?_)
      · exfalso; omega
      · refine V_il1n dX11_go_14 ?_
        refine V_bipush dX11_go_15 rfl ?_
        refine V_icmp_le (tgt := 22) dX11_go_17 rfl (by first | assumption | (unfold ri at *; omega)) (by first | assumption | (unfold ri at *; omega)) (fun b17 => ?_) (fun b17 => ?_)
        · refine V_al0n dX11_go_22 ?_
          refine V_al0n dX11_go_23 ?_
          refine V_getR kk0 (by decide) fl_X11_55 (fx_0_8 hρ) dX11_go_24 ?_
          refine V_getI kk62 (by decide) fl_X11_223 x1 dX11_go_27 ?_
          refine V_callV (as := [_]) ml_X11_186 im_X11_makeReady se_X11_makeReady kk0 (by decide) (by decide) dX11_go_30 rfl rfl (by decide) (by decide) (Nat.le_of_ble_eq_true rfl) (by decide) (by decide) rfl (c_makeReady hW hC hG h5 hmm (sk := φ 104 67) (ra := ra) h7.1 h7.2 (h8.1.trans hra)) ?_
          rintro r30 ρ30 f30 g30 ⟨rfl, s30_0, s30_1, q⟩
          obtain rfl := s30_0.symm
          obtain rfl := s30_1.symm
          refine V_iconst dX11_go_33 ?_
          refine V_is2n dX11_go_34 (by decide) rfl ?_
          have hC2 : CT T b f30 := hC.cg hb (fun a k h1 h2 => q.1 a k (by omega) (by omega))
          have hS2 : RSm T ρ f30 g φ γ := hS.cg (fun a k hr => q.1 a k (by unfold rcC at hr; omega) (by unfold rcC at hr; omega)) (fun _ _ _ => rfl) (fun _ => rfl)
          exact w_go35 (n := nN) (by omega) h7.2 hmm (N := goN T nN φ γ) (f0 := f30) (g0 := g) (ρ0 := ρ) (fun ρ' f' g' a1 a2 a3 a4 a5 a6 => ⟨rfl, a1, a6, ⟨false, ra, a3⟩, (q.ag.tr (AG.sm a4)).wk (by omega), ⟨a5.1, fun a k z1 z2 => (a5.2.1 a k z1 z2).trans (q.1 a k (by omega) (by omega)), a5.2.2⟩⟩) (fun F hF => q.ge.cg hF) 0 (by omega) ρ f30 g φ γ hW hC2 q.2.1 (fun _ => rfl) ⟨fun _ _ _ => rfl, fun _ _ _ _ => rfl, fun _ _ _ _ _ _ => rfl⟩ hS2 c1 hm rfl hra (by rw [Nat.sub_zero, Nat.zero_add])
        · exfalso; omega
  · have ec : ¬ ((decide (φ 104 78 = 1) && zin n 0 120) = true) := fun z => c (by unfold zin at z; simpa using z)
    have ea : goA T n φ γ = -1 := by unfold goA; rw [if_neg ec]
    have ef : goF T n φ γ = φ := by unfold goF; rw [if_neg ec]
    have eg : goG T n φ γ = γ := by unfold goG; rw [if_neg ec]
    rw [ea, ef, eg]
    refine V_al0n dX11_go_0 ?_
    refine V_getR kk0 (by decide) fl_X11_55 (fx_0_8 hρ) dX11_go_1 ?_
    refine V_getZ kk62 (by decide) fl_X11_122 h1.1 dX11_go_4 ?_
    refine V_if_eq (tgt := 20) dX11_go_7 rfl (by have := h1.2.2.1; unfold ri; omega) (fun b7 => ?_) (fun b7 => ?_)
    · refine V_iconst dX11_go_20 ?_
      exact V_ireturn rfl ⟨rfl, hW, hS, ⟨_, _, hG⟩, AG.rf.wk (by omega), fun _ _ _ => rfl, fun _ _ _ _ => rfl, fun _ _ _ _ _ _ => rfl⟩ dX11_go_21
    · refine V_il1n dX11_go_10 ?_
      refine V_if_lt (tgt := 20) dX11_go_11 rfl (by first | assumption | (unfold ri at *; omega)) (fun b11 => ?_) (fun b11 => ?_)
      · refine V_iconst dX11_go_20 ?_
        exact V_ireturn rfl ⟨rfl, hW, hS, ⟨_, _, hG⟩, AG.rf.wk (by omega), fun _ _ _ => rfl, fun _ _ _ _ => rfl, fun _ _ _ _ _ _ => rfl⟩ dX11_go_21
      · refine V_il1n dX11_go_14 ?_
        refine V_bipush dX11_go_15 rfl ?_
        refine V_icmp_le (tgt := 22) dX11_go_17 rfl (by first | assumption | (unfold ri at *; omega)) (by first | assumption | (unfold ri at *; omega)) (fun b17 => ?_) (fun b17 => ?_)
        · exact absurd ⟨by have := h1.2.2.1; omega, by omega, by omega⟩ c
        · refine V_iconst dX11_go_20 ?_
          exact V_ireturn rfl ⟨rfl, hW, hS, ⟨_, _, hG⟩, AG.rf.wk (by omega), fun _ _ _ => rfl, fun _ _ _ _ => rfl, fun _ _ _ _ _ _ => rfl⟩ dX11_go_21
end GO2

