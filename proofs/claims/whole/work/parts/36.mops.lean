/-! the reference's race by calls -/
theorem km_at {α : Type} {f f' : Nat → Nat → α} (h : KM f f') {a k : Nat} (hs : scM a k = false) : f' a k = f a k := h a k hs
theorem going_km {T : TT} {f f' : IT} (h : KM f f') : going T f' = going T f := by unfold going; rw [h 104 78 rfl, h 137 3 rfl, h 137 0 rfl]
theorem rpF_km {T : TT} {f f' : IT} (h : KM f f') : rpF T f' = rpF T f := by unfold rpF; rw [h 137 5 rfl, h 104 80 rfl, h 137 0 rfl]
theorem raF_km {f f' : IT} (h : KM f f') : raF f' = raF f := by unfold raF; rw [h 104 68 rfl]
/-- cells that the race's row holds -/
def RcK (T : TT) (f : IT) : Prop := (f 104 78 = 0 ∨ f 104 78 = 1) ∧ (f 104 78 = 1 → RWf T (f 104 79) (f 104 80) (f 137))
theorem RcK.km {T : TT} {f f' : IT} (h : RcK T f) (hk : KM f f') : RcK T f' := by
  unfold RcK RWf at *
  rw [hk 104 78 rfl, hk 104 79 rfl, hk 104 80 rfl, hk 137 0 rfl, hk 137 2 rfl, hk 137 3 rfl, hk 137 5 rfl, hk 137 6 rfl]
  exact h
theorem c_going {T : TT} {ρ : RT} {f f0 : IT} {g : JT} (hρ : Fx ρ) (hT : MT T f) (hk : TOK T) (km : KM f0 f) (hR : RcK T f0) (hd : f0 104 78 = 1 ∨ ri (f0 137 3) ∧ ri (f0 137 0)) :
    C_X12_isGoing [.ref 104] ρ f g (fun r ρ' f' g' => r = some (.int (iz (bz (going T f0)))) ∧ ρ' = ρ ∧ f' = f ∧ g' = g) := by
  have hall := allS_rng hk
  rw [← going_km km]
  have hr3 : ri (f 137 3) ∧ ri (f 137 0) := by
    rw [km 137 3 rfl, km 137 0 rfl]
    rcases hd with h | h
    · obtain ⟨-, -, w3, -, w5, -⟩ := hR.2 h
      unfold ri; omega
    · exact h
  exact c_isGoing hρ hT hk (by rw [km 104 78 rfl]; exact hR.1) hr3.1 hr3.2
def goN (T : TT) : Nat → IT → JT → Nat × IT × JT
  | 0, f, g => (0, f, g)
  | n + 1, f, g => if going T f = true then ((goN T n (stF T f g) (stG g)).1 + 1, (goN T n (stF T f g) (stG g)).2) else (0, f, g)
theorem one_top {T : TT} {c : CC} (hc : CR c) {k : Nat} {hc' pa : Int} {s : SS} : (one T c k hc' pa s).2.1 ≤ c.2.2.2.2 := by
  unfold CR at hc
  simp only [one, sWi]
  (repeat' split) <;> omega
theorem stF_at {T : TT} {f : IT} {g : JT} {a k : Nat} (h1 : a ≠ 138) (h2 : ¬ (a = 104 ∧ k = 82)) (h3 : ¬ (a = 137 ∧ k < 5)) : stF T f g a k = f a k := by
  unfold stF
  rw [u2_o (by omega), u2_o (by omega), u2_o (by omega), u2_o (by omega)]
  split
  · rw [u2_o (by omega), remF_o h1 h2]
  · exact remF_o h1 h2
theorem stF_82 {T : TT} {f : IT} {g : JT} : stF T f g 104 82 = if f 104 82 = 20 then 20 else f 104 82 + 1 := by
  have : remF (g 104 69) f 104 82 = if f 104 82 = 20 then 20 else f 104 82 + 1 := by
    unfold remF
    split <;> exact u2_s
  unfold stF
  rw [u2_o (by omega), u2_o (by omega), u2_o (by omega), u2_o (by omega)]
  split
  · rw [u2_o (by omega)]; exact this
  · exact this
/-- the race's row behind a step keeps its ranges -/
theorem stF_rw {T : TT} {f : IT} {g : JT} (hk : TOK T) (h67 : 0 ≤ f 104 67 ∧ f 104 67 ≤ 30) (hW : RWf T (f 104 79) (f 104 80) (f 137)) (h0 : f 137 0 < allS T) (h3 : 0 < f 137 3) : RWf T (stF T f g 104 79) (stF T f g 104 80) (stF T f g 137) := by
  obtain ⟨w1, w2, w3, w4, w5, w6, w7⟩ := hW
  have hm := hk.man (k := (f 104 79).toNat) (by omega)
  obtain ⟨k1, k2, k3⟩ := c0_ok hk (m := (f 104 79).toNat) (by omega) (ra := raF f) h67
  have hl := lat_lt hk (n := f 137 0) (by omega)
  have hpp : 1 ≤ rpF T f ∧ rpF T f ≤ 9 := by
    unfold rpF
    split
    · omega
    · exact pce_rng hk (by omega)
  have hr := one_rng hk k1 hl (h := (f 137 6).toNat) (by omega) hpp (s := (f 137 1, f 137 2, f 137 3, f 137 0)) (by unfold SR; simp only; omega)
  have ht := one_top (T := T) k1 (k := lat T (f 137 0)) (hc' := T 117 (f 137 6).toNat) (pa := rpF T f) (s := (f 137 1, f 137 2, f 137 3, f 137 0))
  have ex : (xsF T f g).1.2 = (one T (c0 T (raF f) (f 104 67) (f 104 79).toNat) (lat T (f 137 0)) (T 117 (f 137 6).toNat) (rpF T f) (f 137 1, f 137 2, f 137 3, f 137 0)).2 := by
    unfold xsF onS
    simp only
    split <;> rfl
  have e0 : stF T f g 137 0 = f 137 0 + 1 := by
    unfold stF
    rw [u2_o (by omega), u2_o (by omega), u2_o (by omega), u2_s, ex]
    rfl
  have e2 : stF T f g 137 2 = (xsF T f g).1.2.1 := by
    unfold stF
    rw [u2_o (by omega), u2_s]
  have e3 : stF T f g 137 3 = (xsF T f g).1.2.2.1 := by
    unfold stF
    rw [u2_s]
  have e5 : stF T f g 137 5 = f 137 5 := stF_at (by omega) (by omega) (by omega)
  have e6 : stF T f g 137 6 = f 137 6 := stF_at (by omega) (by omega) (by omega)
  have e7 : stF T f g 104 79 = f 104 79 := stF_at (by omega) (by omega) (by omega)
  have e8 : stF T f g 104 80 = f 104 80 := stF_at (by omega) (by omega) (by omega)
  obtain ⟨⟨q1, q2⟩, q3, -⟩ := hr
  unfold RWf
  rw [e0, e2, e3, e5, e6, e7, e8, ex]
  refine ⟨w1, w2, by omega, ⟨q1.1, ht⟩, ⟨q2.1, ?_⟩, w6, w7⟩
  exact Int.le_trans q3 w5.2
theorem w_go26 {T : TT} {Q : QT} {ρ : RT} (hρ : Fx ρ) (hk : TOK T) {n : Nat} (hn : n ≤ 120) {N : Nat × IT × JT} (hQ : ∀ f g, KM N.2.1 f → KM N.2.2 g → Q (some (.int (iz (N.1 : Int)))) ρ f g)
    (i : Nat) (hi : i ≤ n) (F : IT) (G : JT) (f : IT) (g : JT) (kf : KM F f) (kg : KM G g) (hT : MT T F) (h78 : F 104 78 = 1) (h67 : 0 ≤ F 104 67 ∧ F 104 67 ≤ 30) (h68 : F 104 68 = 0 ∨ F 104 68 = 1) (h82 : 0 ≤ F 104 82 ∧ F 104 82 ≤ 20) (hW : RWf T (F 104 79) (F 104 80) (F 137)) (hN : N = ((goN T (n - i) F G).1 + i, (goN T (n - i) F G).2)) :
    V_X12_go Q 26 [.ref 104, .int (iz (n : Int)), .int (iz (i : Int))] [] ρ f g := by
  have hTf := hT.km kf
  have hR : RcK T F := ⟨Or.inr h78, fun _ => hW⟩
  by_cases e : i = n
  · subst e
    rw [Nat.sub_self] at hN
    simp only [goN] at hN
    rw [Nat.zero_add] at hN
    subst hN
    refine V_il2n dX12_go_26 ?_
    refine V_il1n dX12_go_27 ?_
    refine V_icmp_ge (tgt := 48) dX12_go_28 rfl (by first | assumption | (unfold ri at *; omega)) (by first | assumption | (unfold ri at *; omega)) (fun b28 => ?_) (fun b28 => ?_)
    · refine V_il2n dX12_go_48 ?_
      exact V_ireturn rfl (hQ f g kf kg) dX12_go_49
    · exfalso; omega
  · rw [show n - i = (n - (i + 1)) + 1 by omega, goN] at hN
    refine V_il2n dX12_go_26 ?_
    refine V_il1n dX12_go_27 ?_
    refine V_icmp_ge (tgt := 48) dX12_go_28 rfl (by first | assumption | (unfold ri at *; omega)) (by first | assumption | (unfold ri at *; omega)) (fun b28 => ?_) (fun b28 => ?_)
    · exfalso; omega
    · refine V_al0n dX12_go_31 ?_
      refine V_callV (as := []) ml_X12_508 im_X12_isGoing se_X12_isGoing kk104 (by decide) (by decide) dX12_go_32 rfl rfl (by decide) (by decide) (Nat.le_of_ble_eq_true rfl) (by decide) (by decide) rfl (c_going hρ hTf hk kf hR (Or.inl h78)) ?_
      refine pq4 ?_
      refine V_bt (tgt := 48) dX12_go_35 rfl (fun b35 => ?_) (fun b35 => ?_)
      · rw [if_neg (by rw [b35]; exact Bool.false_ne_true)] at hN
        simp only at hN
        rw [Nat.zero_add] at hN
        subst hN
        refine V_il2n dX12_go_48 ?_
        exact V_ireturn rfl (hQ f g kf kg) dX12_go_49
      · rw [if_pos b35] at hN
        simp only at hN
        have bg := b35
        unfold going at bg
        simp at bg
        obtain ⟨⟨-, bg3⟩, bg0⟩ := bg
        have hW' : RWf T (f 104 79) (f 104 80) (f 137) := (hR.km kf).2 ((kf 104 78 rfl).trans h78)
        refine V_al0n dX12_go_38 ?_
        refine V_callV (as := []) ml_X12_511 im_X12_raceStep se_X12_raceStep kk104 (by decide) (by decide) dX12_go_39 rfl rfl (by decide) (by decide) (Nat.le_of_ble_eq_true rfl) (by decide) (by decide) rfl (c_raceStep hρ hTf hk (by rw [kf 104 67 rfl]; exact h67) (by rw [kf 104 68 rfl]; exact h68) (by rw [kf 104 82 rfl]; exact h82) hW' (by rw [kf 137 0 rfl]; exact bg0) (by rw [kf 137 3 rfl]; exact bg3)) ?_
        rintro r39 ρ39 f39 g39 ⟨rfl, s39_0, k39, l39⟩
        obtain rfl := s39_0.symm
        refine V_inc2 dX12_go_42 (by decide) rfl ?_
        refine V_goto (tgt := 26) dX12_go_45 rfl ?_
        have ks : KM (stF T F G) f39 := by
          refine KM.tr ?_ k39
          have e69 : g 104 69 = G 104 69 := kg 104 69 rfl
          have eR : ∀ a k, scM a k = false → remF (g 104 69) f a k = remF (G 104 69) F a k := fun a k hs => by
            have t137 : ∀ j, f 137 j = F 137 j := fun j => kf 137 j rfl
            have t138 : ∀ j, f 138 j = F 138 j := fun j => kf 138 j rfl
            unfold remF
            rw [kf 104 82 rfl, e69]
            by_cases h8 : F 104 82 = 20
            · rw [if_pos h8, if_pos h8]
              simp only [u2, cpU, shU, t137, t138]
              simp
              rw [kf a k hs]
            · rw [if_neg h8, if_neg h8]
              simp only [u2, cpU, t137]
              rw [kf a k hs]
          have ex : xsF T f g = xsF T F G := by unfold xsF; rw [raF_km kf, rpF_km kf, kf 104 67 rfl, kf 104 79 rfl, kf 137 0 rfl, kf 137 6 rfl, kf 137 1 rfl, kf 137 2 rfl, kf 137 3 rfl, e69]
          unfold stF
          rw [ex, raF_km kf, kf 137 0 rfl, kf 137 6 rfl, kf 137 4 rfl, e69]
          refine km_cg (km_cg (km_cg (km_cg ?_)))
          split
          · exact km_cg (e69 ▸ eR)
          · exact e69 ▸ eR
        have lg : KM (stG G) g39 := KM.tr (by unfold stG; rw [kg 104 69 rfl]; exact km_cg kg) l39
        exact w_go26 hρ hk hn hQ (i + 1) (by omega) (stF T F G) (stG G) f39 g39 ks lg (fun a k ht => (stF_at (fun q => by subst q; simp [tx, half] at ht) (fun q => by rw [q.1, q.2] at ht; cases ht) (fun q => by rw [q.1] at ht; simp [tx, half] at ht)).trans (hT a k ht)) ((stF_at (by omega) (by omega) (by omega)).trans h78) (by rw [stF_at (by omega) (by omega) (by omega)]; exact h67) (by rw [stF_at (by omega) (by omega) (by omega)]; exact h68) (by rw [stF_82]; split <;> omega) (stF_rw hk h67 hW bg0 bg3) (by rw [hN, Nat.add_assoc, Nat.add_comm 1 i])
termination_by n - i
def goA (T : TT) (n : Int) (f : IT) (g : JT) : Int := if (decide (f 104 78 = 1) && zin n 0 120) = true then ((goN T n.toNat f g).1 : Int) else -1
def goF (T : TT) (n : Int) (f : IT) (g : JT) : IT := if (decide (f 104 78 = 1) && zin n 0 120) = true then (goN T n.toNat f g).2.1 else f
def goG (T : TT) (n : Int) (f : IT) (g : JT) : JT := if (decide (f 104 78 = 1) && zin n 0 120) = true then (goN T n.toNat f g).2.2 else g
theorem c_mgo {T : TT} {ρ : RT} {f : IT} {g : JT} (hρ : Fx ρ) (hT : MT T f) (hk : TOK T) (h67 : 0 ≤ f 104 67 ∧ f 104 67 ≤ 30) (h68 : f 104 68 = 0 ∨ f 104 68 = 1) (h82 : 0 ≤ f 104 82 ∧ f 104 82 ≤ 20) (hR : RcK T f) {n : Int} (rn_ : ri n) :
    C_X12_go [.ref 104, .int (iz n)] ρ f g (fun r ρ' f' g' => r = some (.int (iz (goA T n f g))) ∧ ρ' = ρ ∧ KM (goF T n f g) f' ∧ KM (goG T n f g) g') := by
  have hz := hR.1
  refine Ct.ofV (by decide) rfl (Nat.le_of_ble_eq_true rfl) ?_
  refine V_al0n dX12_go_0 ?_
  refine V_iconst dX12_go_1 ?_
  refine V_putI kk104 (by decide) fl_X12_154 rfl dX12_go_2 ?_
  refine V_al0n dX12_go_5 ?_
  refine V_getZ kk104 (by decide) fl_X12_292 (u2_n (by decide) rfl) dX12_go_6 ?_
  refine V_if_eq (tgt := 22) dX12_go_9 rfl (by first | assumption | (unfold ri at *; omega)) (fun b9 => ?_) (fun b9 => ?_)
  · have e9 : f 104 78 = 0 := b9
    refine V_iconst dX12_go_22 ?_
    exact V_ireturn rfl ⟨by unfold goA; simp [*], rfl, by unfold goF; simp [*]; exact KM.u2 rfl KM.rf, by unfold goG; simp [*]; exact KM.rf⟩ dX12_go_23
  · have e9 : f 104 78 = 1 := by have := hR.1; omega
    refine V_il1n dX12_go_12 ?_
    refine V_iconst dX12_go_13 ?_
    refine V_bipush dX12_go_14 rfl ?_
    refine V_callS (as := [_, _, _]) ml_X12_199 sm_X12_isIn dX12_go_16 rfl rfl (by decide) (by decide) (Nat.le_of_ble_eq_true rfl) (by decide) (by decide) rfl (c_isIn rn_ (by unfold ri; omega) (by unfold ri; omega)) ?_
    refine pq4 ?_
    refine V_bf (tgt := 24) dX12_go_19 rfl (fun b19 => ?_) (fun b19 => ?_)
    · refine V_iconst dX12_go_24 ?_
      refine V_is2n dX12_go_25 (by decide) rfl ?_
      have b' := b19
      unfold zin at b'
      simp only [decide_eq_true_eq] at b'
      obtain ⟨nN, rfl⟩ : ∃ k : Nat, n = k := ⟨n.toNat, by omega⟩
      exact w_go26 hρ hk (by omega) (N := goN T nN f g) (fun f' g' a1 a2 => ⟨by unfold goA; simp [e9, b19], rfl, by unfold goF; simp [e9, b19]; exact a1, by unfold goG; simp [e9, b19]; exact a2⟩) 0 (by omega) f g (u2 f 104 2 0) g (KM.u2 rfl KM.rf) KM.rf hT e9 h67 h68 h82 (hR.2 e9) rfl
    · refine V_iconst dX12_go_22 ?_
      exact V_ireturn rfl ⟨by unfold goA; simp [*], rfl, by unfold goF; simp [*]; exact KM.u2 rfl KM.rf, by unfold goG; simp [*]; exact KM.rf⟩ dX12_go_23

