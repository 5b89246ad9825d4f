section RACE
variable {T : TT} {b : Nat} {ρ : RT} {f : IT} {g : JT} {φ : IT} {γ : JT}
/-- all but the racer's cells stay -/
def RK (f f' : IT) : Prop := ∀ a k, ¬ rcC a k → f' a k = f a k
def RG (g g' : JT) : Prop := ∀ a, ¬ (62 ≤ a ∧ a ≤ 64) → ¬ (84 ≤ a ∧ a ≤ 103) → g' a = g a
theorem RK.ct (hb : b = 5 ∨ b = 30) {f' : IT} (h : RK f f') (hC : CT T b f) : CT T b f' := hC.cg hb (fun a k h1 h2 => h a k (by unfold rcC; omega))
theorem WR.go (hk : TOK T) {w : Nat} {on m p d : Int} {r : Nat → Int} (h : WR T w on m p r d f g) : wgo T w f = (decide (on = 1) && decide (0 < r 3) && decide (r 0 < allS T)) := by
  obtain ⟨h1, h2, h3, h4, h5⟩ := h
  unfold wgo
  rw [h1]
  by_cases e : on = 1
  · obtain ⟨q1, q2, q3, q4, q5, q6, q7, q8, q9, q10, q11, q12, k, v, q13, q14, q15⟩ := h5 e
    have := (q13.go hk).1
    have h6 := hk.la
    rw [q9, q14]
    have e2 : decide ((k : Int) < T 104 12) = decide (r 0 < allS T) := by
      by_cases z : k < nLa T
      · rw [decide_eq_true (by omega), decide_eq_true (this.mp z)]
      · rw [decide_eq_false (by omega), decide_eq_false (fun q => z (this.mpr q))]
    rw [e2]
  · simp [e]
theorem WR.rr (hk : TOK T) {w : Nat} {m p d : Int} {r : Nat → Int} (h : WR T w 1 m p r d f g) : ri (f w 8) ∧ ri (f w 12) ∧ ri (f w 7) ∧ ri (f w 5) ∧ ri (f w 2) ∧ ri (1 + f w 12) ∧ ri (f w 3) := by
  obtain ⟨h1, h2, h3, h4, h5⟩ := h
  obtain ⟨⟨w1, w2, w3, w4, w5, w6, w7⟩, q2, q3, q4, q5, q6, q7, q8, q9, q10, q11, q12, k, v, q13, q14, q15⟩ := h5 rfl
  have := (q13.go hk)
  have h6 := hk.la
  have h7 := hk.pl
  have h8 := hk.ho
  have hm := hk.man (k := m.toNat) (by omega)
  rw [q9, q14, q8, q6, q3, q4]
  unfold ri
  omega
theorem RSm.gC (hW : TW T b ρ) (hC : CT T b f) (hS : RSm T ρ f g φ γ) : C_X10_isGoing [.ref 62, .ref b] ρ f g (fun r ρ' f' g' => r = some (.int (iz (bz (going T φ)))) ∧ ρ' = ρ ∧ f' = f ∧ g' = g) := by
  have hk := hW.2.2.2.2.1
  have h6 := hk.la
  obtain ⟨h1, -⟩ := hS
  have e : wgo T 62 f = going T φ := h1.go hk
  rcases h1.2.2.1 with z | z
  · have z0 : f 62 0 = 0 := h1.1.trans z
    have eg : going T φ = false := by unfold going; rw [z]; rfl
    rw [eg]
    have hb := hW.2.1
    have hρ := hW.1
    refine Ct.ofV (by decide) rfl (Nat.le_of_ble_eq_true rfl) ?_
    refine V_al0n dX10_isGoing_0 ?_
    refine V_getZ kk62 (by decide) fl_X10_9 z0 dX10_isGoing_1 ?_
    refine V_if_eq (tgt := 30) dX10_isGoing_4 rfl (by first | assumption | (unfold ri at *; omega)) (fun b4 => ?_) (fun b4 => ?_)
    · refine V_iconst dX10_isGoing_30 ?_
      exact V_zreturn rfl (by first | exact Or.inl rfl | exact Or.inr rfl | (unfold bz; split <;> simp)) ⟨rfl, rfl, rfl, rfl⟩ dX10_isGoing_31
    · exact absurd rfl b4
  · rw [z] at h1
    have hr := h1.rr hk
    have := c_wgoing (w := 62) (g := g) hW.1 hW.2.1 hC hk rfl (Or.inr h1.1) hr.1 hr.2.1
    rw [e] at this
    exact this
theorem c_race (hW : TW T b ρ) (hC : CT T b f) (hS : RSm T ρ f g φ γ) {m p : Int} (rm : ri m) (rp : ri p) : C_X11_race [.ref 0, .int (iz m), .int (iz p)] ρ f g (fun r ρ' f' g' => r = some (.int (iz (bz (okM T m && okP T p)))) ∧ ρ' = ρ ∧ RSm T ρ f' g' (raceF T m p φ) γ ∧ RK f f' ∧ g' = g) := by
  have hk := hW.2.2.2.2.1
  have hb := hW.2.1
  have hρ := hW.1
  obtain ⟨h1, h2, h3, h4, h5, h6, h7, h8⟩ := hS
  refine Ct.ofV (by decide) rfl (Nat.le_of_ble_eq_true rfl) ?_
  cases c : (okM T m && okP T p) with
  | false =>
    have er : raceF T m p φ = φ := by unfold raceF; rw [c]; rfl
    rw [er]
    refine V_al0n dX11_race_0 ?_
    refine V_il1n dX11_race_1 ?_
    refine V_il2n dX11_race_2 ?_
    refine V_callV (as := [_, _]) ml_X11_203 im_X11_canRun se_X11_canRun kk0 (by decide) (by decide) dX11_race_3 rfl rfl (by decide) (by decide) (Nat.le_of_ble_eq_true rfl) (by decide) (by decide) rfl (c_canRun hW hC rm rp) ?_
    refine pq4 ?_
    refine V_bf (tgt := 11) dX11_race_6 rfl (fun b6 => ?_) (fun b6 => ?_)
    · rw [c] at b6; cases b6
    · refine V_iconst dX11_race_9 ?_
      exact V_zreturn rfl (by first | exact Or.inl rfl | exact Or.inr rfl | (unfold bz; split <;> simp)) ⟨rfl, rfl, ⟨h1, h2, h3, h4, h5, h6, h7, h8⟩, fun _ _ _ => rfl, rfl⟩ dX11_race_10
  | true =>
    have c2 := c
    rw [Bool.and_eq_true] at c2
    obtain ⟨mN, rfl, hm⟩ := okM_at c2.1
    obtain ⟨pN, rfl, hp⟩ := okP_at c2.2
    have hma := hk.man hm
    have hpl := hk.plan hp
    have h3o := hk.ho
    have h5m := hk.me
    have h5p := hk.pl
    have hall := allS_rng hk
    obtain ⟨bw, bw0, bw1, bw2⟩ := begF_wk (w := 62) (f := f) (g := g) hk hm hp (ra := false) (sk := 0) (d := g 62 14) rfl
    obtain ⟨⟨w6, w4, w9, w7, w8⟩, k14, k12, k13, k3, k2, k5, k10⟩ := bw
    have er : ∀ a k, raceF T (mN : Int) (pN : Int) φ a k = if a = 104 ∧ k = 82 then 0 else if a = 137 ∧ k = 6 then T 121 pN else if a = 137 ∧ k = 5 then 0 else if a = 137 ∧ k = 4 then 0 else if a = 137 ∧ k = 3 then T 114 mN else if a = 137 ∧ k = 2 then T 113 mN else if a = 137 ∧ k = 1 then 0 else if a = 137 ∧ k = 0 then 0 else if a = 104 ∧ k = 80 then (pN : Int) else if a = 104 ∧ k = 79 then (mN : Int) else if a = 104 ∧ k = 78 then 1 else φ a k := fun a k => by
      unfold raceF
      rw [c, if_pos rfl, Int.toNat_natCast, Int.toNat_natCast]
      rfl
    generalize raceF T (mN : Int) (pN : Int) φ = Φ at er
    have fin : RSm T ρ (u2 (begF T 62 (mN : Int) (pN : Int) f) 0 10 0) g Φ γ := by
      have eo : ∀ a k, a ≠ 62 → ¬ (a = 0 ∧ k = 10) → u2 (begF T 62 (mN : Int) (pN : Int) f) 0 10 0 a k = f a k := fun a k q1 q2 => by rw [u2_o q2, begF_o q1]
      have ew : ∀ k, u2 (begF T 62 (mN : Int) (pN : Int) f) 0 10 0 62 k = begF T 62 (mN : Int) (pN : Int) f 62 k := fun k => u2_o (by omega)
      refine ⟨?_, ?_, h3, ?_, ?_, ?_, ?_, ?_⟩
      · refine WR.cg (f := begF T 62 (mN : Int) (pN : Int) f) (g := g) ?_ ew rfl
        have x78 : Φ 104 78 = 1 := by rw [er]; simp
        have x79 : Φ 104 79 = (mN : Int) := by rw [er]; simp
        have x80 : Φ 104 80 = (pN : Int) := by rw [er]; simp
        have y0 : Φ 137 0 = 0 := by rw [er]; simp
        have y1 : Φ 137 1 = 0 := by rw [er]; simp
        have y2 : Φ 137 2 = T 113 mN := by rw [er]; simp
        have y3 : Φ 137 3 = T 114 mN := by rw [er]; simp
        have y4 : Φ 137 4 = 0 := by rw [er]; simp
        have y5 : Φ 137 5 = 0 := by rw [er]; simp
        have y6 : Φ 137 6 = T 121 pN := by rw [er]; simp
        rw [x78, x79, x80]
        refine ⟨bw0, h1.2.1, Or.inr rfl, h1.2.2.2.1, fun _ => ⟨?_, bw1, k2, ?_, ?_, ?_, ?_, ?_, ?_, ?_, ?_, ?_, 0, 0, ?_, k12, k13⟩⟩
        · unfold RWf; rw [y0, y2, y3, y5, y6, Int.toNat_natCast]; omega
        · rw [y6, k3]; omega
        · rw [y6]; exact w4
        · rw [y5]; exact k5
        · rw [Int.toNat_natCast]; exact w6
        · rw [y2]; exact w7
        · rw [y3]; exact w8
        · rw [y1]; exact w9
        · rw [y0]; exact k10
        · rw [y4]; exact bw2
        · rw [y0]
          refine ⟨by simp [sumTo], ?_⟩
          by_cases z : nLa T = 0
          · right; omega
          · left; have := hk.lane (k := 0) (by omega); omega
      · have x82 : Φ 104 82 = 0 := by rw [er]; simp
        rw [x82, u2_s]; exact ⟨rfl, by omega, fun q => by omega⟩
      · have x82 : Φ 104 82 = 0 := by rw [er]; simp
        intro u hu
        rw [x82] at hu
        omega
      · have x97 : Φ 104 97 = φ 104 97 := by rw [er]; simp
        rw [x97, eo 0 12 (by omega) (by omega)]; exact h5
      · have x97 : Φ 104 97 = φ 104 97 := by rw [er]; simp
        have x98 : Φ 104 98 = φ 104 98 := by rw [er]; simp
        have x99 : Φ 104 99 = φ 104 99 := by rw [er]; simp
        have x100 : Φ 104 100 = φ 104 100 := by rw [er]; simp
        have x103 : Φ 104 103 = φ 104 103 := by rw [er]; simp
        have x104 : Φ 104 104 = φ 104 104 := by rw [er]; simp
        have x147 : Φ 147 = φ 147 := by funext k; rw [er]; simp
        rw [x97, x98, x99, x100, x103, x104, x147, eo 0 13 (by omega) (by omega), eo 0 14 (by omega) (by omega)]
        exact fun q => ⟨(h6 q).1.cg (fun k => eo 64 k (by omega) (by omega)) rfl, (h6 q).2⟩
      · have x67 : Φ 104 67 = φ 104 67 := by rw [er]; simp
        rw [x67, eo 0 5 (by omega) (by omega)]; exact h7
      · have x68 : Φ 104 68 = φ 104 68 := by rw [er]; simp
        rw [x68, eo 0 6 (by omega) (by omega)]; exact h8
    refine V_al0n dX11_race_0 ?_
    refine V_il1n dX11_race_1 ?_
    refine V_il2n dX11_race_2 ?_
    refine V_callV (as := [_, _]) ml_X11_203 im_X11_canRun se_X11_canRun kk0 (by decide) (by decide) dX11_race_3 rfl rfl (by decide) (by decide) (Nat.le_of_ble_eq_true rfl) (by decide) (by decide) rfl (c_canRun hW hC rm rp) ?_
    refine pq4 ?_
    refine V_bf (tgt := 11) dX11_race_6 rfl (fun b6 => ?_) (fun b6 => ?_)
    · refine V_al0n dX11_race_11 ?_
      refine V_getR kk0 (by decide) fl_X11_55 (fx_0_8 hρ) dX11_race_12 ?_
      refine V_al0n dX11_race_15 ?_
      refine V_getR kk0 (by decide) fl_X11_29 hW.2.2.1 dX11_race_16 ?_
      refine V_il1n dX11_race_19 ?_
      refine V_il2n dX11_race_20 ?_
      refine V_callV (as := [_, _, _]) ml_X11_219 im_X10_begin se_X10_begin kk62 (by decide) (by decide) dX11_race_21 rfl rfl (by decide) (by decide) (Nat.le_of_ble_eq_true rfl) (by decide) (by decide) rfl (c_begin hρ hb hC hk (w := 62) rfl (by omega) rm rp) ?_
      refine pq4 ?_
      refine V_al0n dX11_race_24 ?_
      refine V_iconst dX11_race_25 ?_
      refine V_putI kk0 (by decide) fl_X11_63 rfl dX11_race_26 ?_
      refine V_iconst dX11_race_29 ?_
      exact V_zreturn rfl (by first | exact Or.inl rfl | exact Or.inr rfl | (unfold bz; split <;> simp)) ⟨rfl, rfl, fin, fun a k q => by rw [u2_o (fun e => q (Or.inr (Or.inr ⟨e.1, by omega⟩))), begF_o (fun e => q (Or.inl (by omega)))], rfl⟩ dX11_race_30
    · rw [c] at b6; cases b6
theorem c_paced (hW : TW T b ρ) (hC : CT T b f) (hS : RSm T ρ f g φ γ) {n : Int} (rn_ : ri n) : C_X11_paced [.ref 0, .int (iz n)] ρ f g (fun r ρ' f' g' => r = some (.int (iz (bz (pcdO T n φ)))) ∧ ρ' = ρ ∧ RSm T ρ f' g' (pcdF T n φ) γ ∧ RK f f' ∧ g' = g) := by
  have hk := hW.2.2.2.2.1
  have hb := hW.2.1
  have hρ := hW.1
  have hgC := hS.gC hW hC
  have hS0 := hS
  obtain ⟨h1, h2, h3, h4, h5, h6, h7, h8⟩ := hS
  refine Ct.ofV (by decide) rfl (Nat.le_of_ble_eq_true rfl) ?_
  cases c : pcdO T n φ with
  | false =>
    have er : pcdF T n φ = φ := by unfold pcdF; rw [c]; rfl
    rw [er]
    have X : V_X11_paced (fun r ρ' f' g' => r = some (.int (iz (bz false))) ∧ ρ' = ρ ∧ RSm T ρ f' g' φ γ ∧ RK f f' ∧ g' = g) 25 [.ref 0, .int (iz n)] [] ρ f g := by
      refine V_iconst dX11_paced_25 ?_
      exact V_zreturn rfl (by first | exact Or.inl rfl | exact Or.inr rfl | (unfold bz; split <;> simp)) ⟨rfl, rfl, hS0, fun _ _ _ => rfl, rfl⟩ dX11_paced_26
    unfold pcdO zin at c
    refine V_al0n dX11_paced_0 ?_
    refine V_getR kk0 (by decide) fl_X11_55 (fx_0_8 hρ) dX11_paced_1 ?_
    refine V_al0n dX11_paced_4 ?_
    refine V_getR kk0 (by decide) fl_X11_29 hW.2.2.1 dX11_paced_5 ?_
    refine V_callV (as := [_]) ml_X11_226 im_X10_isGoing se_X10_isGoing kk62 (by decide) (by decide) dX11_paced_8 rfl rfl (by decide) (by decide) (Nat.le_of_ble_eq_true rfl) (by decide) (by decide) rfl (hgC) ?_
    refine pq4 ?_
    refine V_bt (tgt := 25) dX11_paced_11 rfl (fun b11 => ?_) (fun b11 => ?_)
    · exact X
    · refine V_il1n dX11_paced_14 ?_
      refine V_if_eq (tgt := 27) dX11_paced_15 rfl (by first | assumption | (unfold ri at *; omega)) (fun b15 => ?_) (fun b15 => ?_)
      · exfalso; rw [b11] at c; simp at c; first | omega | (unfold zin at b22; simp at b22; omega)
      · refine V_il1n dX11_paced_18 ?_
        refine V_callS (as := [_]) ml_X11_180 sm_X11_isPace dX11_paced_19 rfl rfl (by decide) (by decide) (Nat.le_of_ble_eq_true rfl) (by decide) (by decide) rfl (c_isPace rn_) ?_
        refine pq4 ?_
        refine V_bf (tgt := 27) dX11_paced_22 rfl (fun b22 => ?_) (fun b22 => ?_)
        · exfalso; rw [b11] at c; simp at c; first | omega | (unfold zin at b22; simp at b22; omega)
        · exact X
  | true =>
    have c0 := c
    unfold pcdO at c0
    rw [Bool.and_eq_true] at c0
    have hz : 0 ≤ n ∧ n ≤ 9 := by have := c0.2; unfold zin at this; simpa using this
    have g78 : φ 104 78 = 1 := by have := c0.1; unfold going at this; simp at this; omega
    have er : pcdF T n φ = u2 φ 137 5 n := by unfold pcdF; rw [c]; rfl
    rw [er]
    have fin : RSm T ρ (u2 f 62 5 n) g (u2 φ 137 5 n) γ := by
      have eo : ∀ a k, ¬ (a = 62 ∧ k = 5) → u2 f 62 5 n a k = f a k := fun a k q => u2_o q
      have po : ∀ a k, ¬ (a = 137 ∧ k = 5) → u2 φ 137 5 n a k = φ a k := fun a k q => u2_o q
      have p138 : u2 φ 137 5 n 138 = φ 138 := by funext k; exact u2_o (by omega)
      have p147 : u2 φ 137 5 n 147 = φ 147 := by funext k; exact u2_o (by omega)
      obtain ⟨i1, i2, i3, i4, i5⟩ := h1
      obtain ⟨q1, q2, q3, q4, q5, q6, q7, q8, q9, q10, q11, q12, k, v, q13, q14, q15⟩ := i5 g78
      unfold RSm
      rw [po 104 78 (by omega), po 104 79 (by omega), po 104 80 (by omega), po 104 82 (by omega), po 104 97 (by omega), po 104 98 (by omega), po 104 99 (by omega), po 104 100 (by omega), po 104 103 (by omega), po 104 104 (by omega), po 104 67 (by omega), po 104 68 (by omega), p138, p147, eo 0 10 (by omega), eo 0 12 (by omega), eo 0 13 (by omega), eo 0 14 (by omega), eo 0 5 (by omega), eo 0 6 (by omega)]
      refine ⟨?_, h2, h3, fun u hu a ha => (h4 u hu a ha).cg (fun k => eo a k ?_) rfl, h5, fun q => ⟨(h6 q).1.cg (fun k => eo 64 k (by omega)) rfl, (h6 q).2⟩, h7, h8⟩
      · unfold WR
        rw [eo 62 0 (by omega), eo 62 1 (by omega), eo 62 2 (by omega), eo 62 3 (by omega), eo 62 4 (by omega), u2_s, eo 62 6 (by omega), eo 62 7 (by omega), eo 62 8 (by omega), eo 62 9 (by omega), eo 62 10 (by omega), eo 62 11 (by omega), eo 62 12 (by omega), eo 62 13 (by omega), po 137 0 (by omega), po 137 1 (by omega), po 137 2 (by omega), po 137 3 (by omega), po 137 4 (by omega), po 137 6 (by omega), u2_s]
        refine ⟨i1, i2, i3, i4, fun _ => ⟨?_, q2, q3, q4, q5, rfl, q7, q8, q9, q10, q11, q12, k, v, q13, q14, q15⟩⟩
        unfold RWf at q1 ⊢
        rw [po 137 0 (by omega), po 137 2 (by omega), po 137 3 (by omega), po 137 6 (by omega), u2_s]
        omega
      · obtain ⟨a', ha', hr⟩ := h3.1 u (by omega)
        rw [ha] at ha'
        cases ha'
        omega
    have X : V_X11_paced (fun r ρ' f' g' => r = some (.int (iz (bz true))) ∧ ρ' = ρ ∧ RSm T ρ f' g' (u2 φ 137 5 n) γ ∧ RK f f' ∧ g' = g) 27 [.ref 0, .int (iz n)] [] ρ f g := by
      refine V_al0n dX11_paced_27 ?_
      refine V_getR kk0 (by decide) fl_X11_55 (fx_0_8 hρ) dX11_paced_28 ?_
      refine V_il1n dX11_paced_31 ?_
      refine V_putI kk62 (by decide) fl_X11_264 rfl dX11_paced_32 ?_
      refine V_iconst dX11_paced_35 ?_
      exact V_zreturn rfl (by first | exact Or.inl rfl | exact Or.inr rfl | (unfold bz; split <;> simp)) ⟨rfl, rfl, fin, fun a k q => u2_o (fun e => q (Or.inl (by omega))), rfl⟩ dX11_paced_36
    refine V_al0n dX11_paced_0 ?_
    refine V_getR kk0 (by decide) fl_X11_55 (fx_0_8 hρ) dX11_paced_1 ?_
    refine V_al0n dX11_paced_4 ?_
    refine V_getR kk0 (by decide) fl_X11_29 hW.2.2.1 dX11_paced_5 ?_
    refine V_callV (as := [_]) ml_X11_226 im_X10_isGoing se_X10_isGoing kk62 (by decide) (by decide) dX11_paced_8 rfl rfl (by decide) (by decide) (Nat.le_of_ble_eq_true rfl) (by decide) (by decide) rfl (hgC) ?_
    refine pq4 ?_
    refine V_bt (tgt := 25) dX11_paced_11 rfl (fun b11 => ?_) (fun b11 => ?_)
    · rw [c0.1] at b11; cases b11
    · refine V_il1n dX11_paced_14 ?_
      refine V_if_eq (tgt := 27) dX11_paced_15 rfl (by first | assumption | (unfold ri at *; omega)) (fun b15 => ?_) (fun b15 => ?_)
      · exact X
      · refine V_il1n dX11_paced_18 ?_
        refine V_callS (as := [_]) ml_X11_180 sm_X11_isPace dX11_paced_19 rfl rfl (by decide) (by decide) (Nat.le_of_ble_eq_true rfl) (by decide) (by decide) rfl (c_isPace rn_) ?_
        refine pq4 ?_
        refine V_bf (tgt := 27) dX11_paced_22 rfl (fun b22 => ?_) (fun b22 => ?_)
        · exact X
        · exfalso; unfold zin at b22; simp at b22; omega
end RACE

