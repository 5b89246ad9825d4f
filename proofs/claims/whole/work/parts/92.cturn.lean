section TURNOVER
variable {T : TT} {c : CC} {q : Int} {st : Nat} {b : Nat} {ρ : RT} {wA wB rA rB : Nat} {f : IT} {g : JT}
theorem c_sspread (hW : TW T b ρ) (hS : SWp ρ wA wB rA rB) (hC : CR c) {h : Nat} (hh : h < nHo T) {k : Nat} (hl : k < nLa T) {j : Nat} (hj : j < 2501) {x : Nat} (hx : x < 1099511627776) (hxd : x % 16777216 < 1048576) (hPf : Pf T c (T 117 h) q st k j (x : Int)) (hq : 0 ≤ q ∧ q ≤ 9) (hQs : SQ T c (T 117 h) q st b k rB wB f g) (hA : g wA j = (x : Int)) :
    C_X4_spread [.ref 66, .int (iz (j : Int)), .int (iz (k : Int))] ρ f g (fun r ρ' f' g' => r = none ∧ ρ' = ρ ∧ SQ T c (T 117 h) q st b k rB wB f' g' ∧ SPf b rB wB f g f' g' ∧ bet wB g g' ∧ ∀ p, dnP T c (T 117 h) q k p j (x : Int) wB g') := by
  have hk := hW.2.2.2.2.1
  have h6 := hk.la
  have h11 := hQs.2.2.2.2.2.2.2
  refine Ct.ofV (by decide) rfl (Nat.le_of_ble_eq_true rfl) ?_
  by_cases c1 : k = 0 ∧ 0 < q
  · obtain ⟨qN, hqN⟩ : ∃ n : Nat, q = (n : Int) := ⟨q.toNat, by omega⟩
    rw [hqN] at h11
    have fin := w_sspread (f0 := f) (g0 := g) (Q := fun r ρ' f' g' => r = none ∧ ρ' = ρ ∧ SQ T c (T 117 h) q st b k rB wB f' g' ∧ SPf b rB wB f g f' g' ∧ bet wB g g' ∧ ∀ p, dnP T c (T 117 h) q k p j (x : Int) wB g') hW hS hC hh hl hj hx hxd hPf (z3 := 1) (lo := qN) (hi := qN) (by omega) (by omega) (fun p a1 a2 => by unfold alw; omega) (fun f' g' a1 a2 a3 a4 => ⟨rfl, rfl, a1, a2, a3, fun p ha => by
      have : p = qN := by have := ha.2.1; unfold alw at this; omega
      exact a4 p (by omega) (by omega) ha⟩) qN (by omega) f g hQs SPf.rf bet.rf hA (fun p' a1 a2 => by omega)
    refine V_il1n dX4_spread_0 ?_
    refine V_if_lt (tgt := 11) dX4_spread_1 rfl (by unfold ri; omega) (fun b1 => ?_) (fun b1 => ?_)
    · exfalso; omega
    · refine V_il1n dX4_spread_4 ?_
      refine V_sipush dX4_spread_5 rfl ?_
      refine V_icmp_lt (tgt := 12) dX4_spread_8 rfl (by unfold ri; omega) (by unfold ri; omega) (fun b8 => ?_) (fun b8 => ?_)
      · refine V_il2n dX4_spread_12 ?_
        refine V_if_ne (tgt := 27) dX4_spread_13 rfl (by first | assumption | (unfold ri at *; omega)) (fun b13 => ?_) (fun b13 => ?_)
        · exfalso; omega
        · refine V_al0n dX4_spread_16 ?_
          refine V_getI kk66 (by decide) fl_X4_48 h11 dX4_spread_17 ?_
          refine V_if_le (tgt := 27) dX4_spread_20 rfl (by unfold ri; omega) (fun b20 => ?_) (fun b20 => ?_)
          · exfalso; omega
          · refine V_iconst dX4_spread_23 ?_
            refine V_goto (tgt := 28) dX4_spread_24 rfl ?_
            refine V_is3n dX4_spread_28 (by decide) rfl ?_
            refine V_il3n dX4_spread_29 ?_
            refine V_if_eq (tgt := 40) dX4_spread_30 rfl (by unfold ri; decide) (fun b30 => by exfalso; revert b30; decide) (fun b30 => ?_)
            refine V_al0n dX4_spread_33 ?_
            refine V_getI kk66 (by decide) fl_X4_48 h11 dX4_spread_34 ?_
            refine V_goto (tgt := 41) dX4_spread_37 rfl ?_
            refine V_is4 dX4_spread_41 (by decide) rfl ?_
            refine V_il3n dX4_spread_43 ?_
            refine V_if_eq (tgt := 54) dX4_spread_44 rfl (by unfold ri; decide) (fun b44 => by exfalso; revert b44; decide) (fun b44 => ?_)
            refine V_al0n dX4_spread_47 ?_
            refine V_getI kk66 (by decide) fl_X4_48 h11 dX4_spread_48 ?_
            refine V_goto (tgt := 56) dX4_spread_51 rfl ?_
            refine V_is5 dX4_spread_56 (by decide) rfl ?_
            refine V_il4 dX4_spread_58 ?_
            refine V_is6 dX4_spread_60 (by decide) rfl ?_
            exact fin
      · exfalso; omega
  · have fin := w_sspread (f0 := f) (g0 := g) (Q := fun r ρ' f' g' => r = none ∧ ρ' = ρ ∧ SQ T c (T 117 h) q st b k rB wB f' g' ∧ SPf b rB wB f g f' g' ∧ bet wB g g' ∧ ∀ p, dnP T c (T 117 h) q k p j (x : Int) wB g') hW hS hC hh hl hj hx hxd hPf (z3 := 0) (lo := 1) (hi := 9) (by omega) (by omega) (fun p a1 a2 => by unfold alw; omega) (fun f' g' a1 a2 a3 a4 => ⟨rfl, rfl, a1, a2, a3, fun p ha => a4 p ha.1.1 ha.1.2 ha⟩) 1 (by omega) f g hQs SPf.rf bet.rf hA (fun p' a1 a2 => by omega)
    refine V_il1n dX4_spread_0 ?_
    refine V_if_lt (tgt := 11) dX4_spread_1 rfl (by unfold ri; omega) (fun b1 => ?_) (fun b1 => ?_)
    · exfalso; omega
    · refine V_il1n dX4_spread_4 ?_
      refine V_sipush dX4_spread_5 rfl ?_
      refine V_icmp_lt (tgt := 12) dX4_spread_8 rfl (by unfold ri; omega) (by unfold ri; omega) (fun b8 => ?_) (fun b8 => ?_)
      · refine V_il2n dX4_spread_12 ?_
        refine V_if_ne (tgt := 27) dX4_spread_13 rfl (by first | assumption | (unfold ri at *; omega)) (fun b13 => ?_) (fun b13 => ?_)
        · refine V_iconst dX4_spread_27 ?_
          refine V_is3n dX4_spread_28 (by decide) rfl ?_
          refine V_il3n dX4_spread_29 ?_
          refine V_if_eq (tgt := 40) dX4_spread_30 rfl (by unfold ri; decide) (fun b30 => ?_) (fun b30 => by exfalso; revert b30; decide)
          refine V_iconst dX4_spread_40 ?_
          refine V_is4 dX4_spread_41 (by decide) rfl ?_
          refine V_il3n dX4_spread_43 ?_
          refine V_if_eq (tgt := 54) dX4_spread_44 rfl (by unfold ri; decide) (fun b44 => ?_) (fun b44 => by exfalso; revert b44; decide)
          refine V_bipush dX4_spread_54 rfl ?_
          refine V_is5 dX4_spread_56 (by decide) rfl ?_
          refine V_il4 dX4_spread_58 ?_
          refine V_is6 dX4_spread_60 (by decide) rfl ?_
          exact fin
        · refine V_al0n dX4_spread_16 ?_
          refine V_getI kk66 (by decide) fl_X4_48 h11 dX4_spread_17 ?_
          refine V_if_le (tgt := 27) dX4_spread_20 rfl (by unfold ri; omega) (fun b20 => ?_) (fun b20 => ?_)
          · refine V_iconst dX4_spread_27 ?_
            refine V_is3n dX4_spread_28 (by decide) rfl ?_
            refine V_il3n dX4_spread_29 ?_
            refine V_if_eq (tgt := 40) dX4_spread_30 rfl (by unfold ri; decide) (fun b30 => ?_) (fun b30 => by exfalso; revert b30; decide)
            refine V_iconst dX4_spread_40 ?_
            refine V_is4 dX4_spread_41 (by decide) rfl ?_
            refine V_il3n dX4_spread_43 ?_
            refine V_if_eq (tgt := 54) dX4_spread_44 rfl (by unfold ri; decide) (fun b44 => ?_) (fun b44 => by exfalso; revert b44; decide)
            refine V_bipush dX4_spread_54 rfl ?_
            refine V_is5 dX4_spread_56 (by decide) rfl ?_
            refine V_il4 dX4_spread_58 ?_
            refine V_is6 dX4_spread_60 (by decide) rfl ?_
            exact fin
          · exfalso; omega
      · exfalso; omega
/-- the states reached, each with its least way -/
def LV (T : TT) (c : CC) (hc q : Int) (st k rA wA n : Nat) (f : IT) (g : JT) : Prop := (∀ i, i < n → ∃ j x : Nat, j < 2501 ∧ f rA i = (j : Int) ∧ g wA j = (x : Int) ∧ Pf T c hc q st k j (x : Int) ∧ ∀ y, Pf T c hc q st k j y → (x : Int) ≤ y) ∧ (∀ j y, Pf T c hc q st k j y → ∃ i, i < n ∧ f rA i = (j : Int)) ∧ (∀ j, j < 2501 → g wA j ≠ 0 → ∃ i, i < n ∧ f rA i = (j : Int)) ∧ n ≤ 2501 ∧ ∀ i i', i < n → i' < n → f rA i = f rA i' → i = i'
/-- cleared up to i -/
def clW (rA wA : Nat) (f : IT) (g : JT) (i : Nat) : JT := fun a j => if a = wA ∧ ∃ i', i' < i ∧ f rA i' = (j : Int) then 0 else g a j
theorem clW_0 : clW rA wA f g 0 = g := by funext a j; unfold clW; rw [if_neg (by rintro ⟨-, i', h, -⟩; omega)]
theorem clW_s {i j : Nat} (hj : f rA i = (j : Int)) : u2 (clW rA wA f g i) wA j 0 = clW rA wA f g (i + 1) := by
  funext a y
  unfold u2 clW
  by_cases e : a = wA ∧ y = j
  · rw [if_pos e, if_pos ⟨e.1, i, by omega, by rw [e.2]; exact hj⟩]
  · rw [if_neg e]
    by_cases e2 : a = wA ∧ ∃ i', i' < i ∧ f rA i' = (y : Int)
    · rw [if_pos e2, if_pos ⟨e2.1, by obtain ⟨-, i', h1, h2⟩ := e2; exact ⟨i', by omega, h2⟩⟩]
    · rw [if_neg e2, if_neg (fun w => by
        obtain ⟨w1, i', w2, w3⟩ := w
        by_cases e3 : i' = i
        · rw [e3, hj] at w3
          exact e ⟨w1, by omega⟩
        · exact e2 ⟨w1, i', by omega, w3⟩)]
theorem w_turn {Q : QT} (hρ : Fx ρ) (hS : SWp ρ wA wB rA rB) {n : Nat} (hn : n ≤ 2501) (h6 : f 66 6 = (n : Int)) (hr : ∀ i, i < n → ∃ j : Nat, j < 2501 ∧ f rA i = (j : Int))
    (hQ : Q none (u2 (u2 (u2 (u2 ρ 66 2 (some wB)) 66 3 (some wA)) 66 4 (some rB)) 66 5 (some rA)) (u2 (u2 f 66 6 (f 66 7)) 66 7 0) (clW rA wA f g n)) (i : Nat) (hi : i ≤ n) :
    V_X4_turnOver Q 2 [.ref 66, .int (iz (i : Int)), .null] [] ρ f (clW rA wA f g i) := by
  obtain ⟨kA, kB, kC, kD⟩ := hS.kd
  have hS0 := hS
  obtain ⟨⟨s2, s3, s4, s5⟩, sw1, sw2⟩ := hS
  by_cases e : i = n
  · subst e
    refine V_il1n dX4_turnOver_2 ?_
    refine V_al0n dX4_turnOver_3 ?_
    refine V_getI kk66 (by decide) fl_X4_32 h6 dX4_turnOver_4 ?_
    refine V_icmp_ge (tgt := 28) dX4_turnOver_7 rfl (by first | assumption | (unfold ri at *; omega)) (by first | assumption | (unfold ri at *; omega)) (fun b7 => ?_) (fun b7 => ?_)
    · refine V_al0n dX4_turnOver_28 ?_
      refine V_getR kk66 (by decide) fl_X4_18 s2 dX4_turnOver_29 ?_
      refine V_as1n dX4_turnOver_32 (by decide) rfl ?_
      refine V_al0n dX4_turnOver_33 ?_
      refine V_al0n dX4_turnOver_34 ?_
      refine V_getR kk66 (by decide) fl_X4_22 s3 dX4_turnOver_35 ?_
      refine V_putR kk66 (by decide) fl_X4_18 rfl dX4_turnOver_38 ?_
      refine V_al0n dX4_turnOver_41 ?_
      refine V_al1n dX4_turnOver_42 ?_
      refine V_putR kk66 (by decide) fl_X4_22 rfl dX4_turnOver_43 ?_
      refine V_al0n dX4_turnOver_46 ?_
      refine V_getR kk66 (by decide) fl_X4_25 (u2_n (by decide) (u2_n (by decide) s4)) dX4_turnOver_47 ?_
      refine V_as2n dX4_turnOver_50 (by decide) rfl ?_
      refine V_al0n dX4_turnOver_51 ?_
      refine V_al0n dX4_turnOver_52 ?_
      refine V_getR kk66 (by decide) fl_X4_29 (u2_n (by decide) (u2_n (by decide) s5)) dX4_turnOver_53 ?_
      refine V_putR kk66 (by decide) fl_X4_25 rfl dX4_turnOver_56 ?_
      refine V_al0n dX4_turnOver_59 ?_
      refine V_al2n dX4_turnOver_60 ?_
      refine V_putR kk66 (by decide) fl_X4_29 rfl dX4_turnOver_61 ?_
      refine V_al0n dX4_turnOver_64 ?_
      refine V_al0n dX4_turnOver_65 ?_
      refine V_getI kk66 (by decide) fl_X4_36 rfl dX4_turnOver_66 ?_
      refine V_putI kk66 (by decide) fl_X4_32 rfl dX4_turnOver_69 ?_
      refine V_al0n dX4_turnOver_72 ?_
      refine V_iconst dX4_turnOver_73 ?_
      refine V_putI kk66 (by decide) fl_X4_36 rfl dX4_turnOver_74 ?_
      exact V_return rfl hQ dX4_turnOver_77
    · exfalso; omega
  · obtain ⟨j, hj, hrj⟩ := hr i (by omega)
    refine V_il1n dX4_turnOver_2 ?_
    refine V_al0n dX4_turnOver_3 ?_
    refine V_getI kk66 (by decide) fl_X4_32 h6 dX4_turnOver_4 ?_
    refine V_icmp_ge (tgt := 28) dX4_turnOver_7 rfl (by unfold ri; omega) (by unfold ri; omega) (fun b7 => ?_) (fun b7 => ?_)
    · exfalso; omega
    · refine V_al0n dX4_turnOver_10 ?_
      refine V_getR kk66 (by decide) fl_X4_18 s2 dX4_turnOver_11 ?_
      refine V_al0n dX4_turnOver_14 ?_
      refine V_getR kk66 (by decide) fl_X4_25 s4 dX4_turnOver_15 ?_
      refine V_il1n dX4_turnOver_18 ?_
      refine V_iald (k := i) kC (kdlt kC (by decide)) (by first | rfl | omega) (by omega) (by first | decide | assumption | omega) hrj dX4_turnOver_19 ?_
      refine V_lconst (a := 0) dX4_turnOver_20 rfl ?_
      refine V_last (k := j) kA (kdlt kA (by decide)) (by first | rfl | omega) (by omega) (by first | decide | assumption | omega) dX4_turnOver_21 ?_
      refine V_inc1 dX4_turnOver_22 (by decide) rfl ?_
      refine V_goto (tgt := 2) dX4_turnOver_25 rfl ?_
      rw [clW_s hrj]
      exact w_turn hρ hS0 hn h6 hr hQ (i + 1) (by omega)
termination_by n - i
theorem c_turnOver (hρ : Fx ρ) (hS : SWp ρ wA wB rA rB) {n : Nat} (hn : n ≤ 2501) (h6 : f 66 6 = (n : Int)) (hr : ∀ i, i < n → ∃ j : Nat, j < 2501 ∧ f rA i = (j : Int)) : C_X4_turnOver [.ref 66] ρ f g (fun r ρ' f' g' => r = none ∧ ρ' = u2 (u2 (u2 (u2 ρ 66 2 (some wB)) 66 3 (some wA)) 66 4 (some rB)) 66 5 (some rA) ∧ f' = u2 (u2 f 66 6 (f 66 7)) 66 7 0 ∧ g' = clW rA wA f g n) := by
  refine Ct.ofV (by decide) rfl (Nat.le_of_ble_eq_true rfl) ?_
  refine V_iconst dX4_turnOver_0 ?_
  refine V_is1n dX4_turnOver_1 (by decide) rfl ?_
  have hw := w_turn (Q := fun r ρ' f' g' => r = none ∧ ρ' = u2 (u2 (u2 (u2 ρ 66 2 (some wB)) 66 3 (some wA)) 66 4 (some rB)) 66 5 (some rA) ∧ f' = u2 (u2 f 66 6 (f 66 7)) 66 7 0 ∧ g' = clW rA wA f g n) (f := f) (g := g) hρ hS hn h6 hr ⟨rfl, rfl, rfl, rfl⟩ 0 (by omega)
  rw [clW_0] at hw
  exact hw
/-- the least of what the states have -/
def mnB (rA wA : Nat) (f : IT) (g : JT) : Nat → Int → Int
  | 0, m => m
  | i + 1, m => let v := g wA (f rA i).toNat; let m' := mnB rA wA f g i m; if m' = -1 ∨ v < m' then v else m'
theorem w_send {Q : QT} (hρ : Fx ρ) (hS : SWp ρ wA wB rA rB) {n : Nat} (hn : n ≤ 2501) (h6 : f 66 6 = (n : Int)) (hr : ∀ i, i < n → ∃ j x : Nat, j < 2501 ∧ f rA i = (j : Int) ∧ g wA j = (x : Int) ∧ x < 1099511627776) (hd : ∀ i i', i < n → i' < n → f rA i = f rA i' → i = i')
    (hQ : Q none ρ f (u2 (clW rA wA f g n) 66 12 (mnB rA wA f g n (-1)))) (i : Nat) (hi : i ≤ n) (hm : -1 ≤ mnB rA wA f g i (-1) ∧ mnB rA wA f g i (-1) < 1099511627776) :
    V_X4_end Q 9 [.ref 66, .int (iz (i : Int)), .null, .null] [] ρ f (u2 (clW rA wA f g i) 66 12 (mnB rA wA f g i (-1))) := by
  obtain ⟨kA, kB, kC, kD⟩ := hS.kd
  have hS0 := hS
  obtain ⟨⟨s2, s3, s4, s5⟩, sw1, sw2⟩ := hS
  by_cases e : i = n
  · subst e
    refine V_il1n dX4_end_9 ?_
    refine V_al0n dX4_end_10 ?_
    refine V_getI kk66 (by decide) fl_X4_32 h6 dX4_end_11 ?_
    refine V_icmp_ge (tgt := 79) dX4_end_14 rfl (by first | assumption | (unfold ri at *; omega)) (by first | assumption | (unfold ri at *; omega)) (fun b14 => ?_) (fun b14 => ?_)
    · exact V_return rfl hQ dX4_end_79
    · exfalso; omega
  · obtain ⟨j, x, hj, hrj, hgj, hx⟩ := hr i (by omega)
    have hrd : u2 (clW rA wA f g i) 66 12 (mnB rA wA f g i (-1)) wA j = (x : Int) := by
      rw [u2_o (by omega)]
      unfold clW
      rw [if_neg (fun w => by
        obtain ⟨-, i', w2, w3⟩ := w
        have := hd i' i (by omega) (by omega) (by rw [w3, hrj])
        omega)]
      exact hgj
    have em : mnB rA wA f g (i + 1) (-1) = if mnB rA wA f g i (-1) = -1 ∨ (x : Int) < mnB rA wA f g i (-1) then (x : Int) else mnB rA wA f g i (-1) := by
      simp only [mnB]
      rw [hrj, Int.toNat_natCast, hgj]
    have nx : ∀ m' : Int, m' = mnB rA wA f g (i + 1) (-1) → V_X4_end Q 9 [.ref 66, .int (iz ((i : Int) + 1)), .null, .null] [] ρ f (u2 (u2 (u2 (clW rA wA f g i) 66 12 (mnB rA wA f g i (-1))) 66 12 m') wA j 0) := fun m' hm' => by
      subst hm'
      rw [u2_u2, u2_cm (by omega), clW_s hrj]
      exact w_send hρ hS0 hn h6 hr hd hQ (i + 1) (by omega) (by rw [em]; split <;> omega)
    generalize mnB rA wA f g i (-1) = M at *
    refine V_il1n dX4_end_9 ?_
    refine V_al0n dX4_end_10 ?_
    refine V_getI kk66 (by decide) fl_X4_32 h6 dX4_end_11 ?_
    refine V_icmp_ge (tgt := 79) dX4_end_14 rfl (by unfold ri; omega) (by unfold ri; omega) (fun b14 => ?_) (fun b14 => ?_)
    · exfalso; omega
    · refine V_al0n dX4_end_17 ?_
      refine V_getR kk66 (by decide) fl_X4_18 s2 dX4_end_18 ?_
      refine V_al0n dX4_end_21 ?_
      refine V_getR kk66 (by decide) fl_X4_25 s4 dX4_end_22 ?_
      refine V_il1n dX4_end_25 ?_
      refine V_iald (k := i) kC (kdlt kC (by decide)) (by first | rfl | omega) (by omega) (by first | decide | assumption | omega) hrj dX4_end_26 ?_
      refine V_lald (k := j) kA (kdlt kA (by decide)) (by first | rfl | omega) (by omega) (by first | decide | assumption | omega) hrd dX4_end_27 ?_
      refine V_ls2n dX4_end_28 (by decide) rfl ?_
      refine V_al0n dX4_end_29 ?_
      refine V_al0n dX4_end_30 ?_
      refine V_getJ kk66 (by decide) fl_X4_53 u2_s dX4_end_31 ?_
      refine V_ldc2_w (a := -1) kl_X4_51 rfl dX4_end_34 ?_
      refine V_lif_eq (tgt := 50) dX4_end_37 dX4_end_38 rfl (by unfold rl; omega) (by unfold rl; omega) (fun b38 => ?_) (fun b38 => ?_)
      · refine V_ll2n dX4_end_50 ?_
        refine V_goto (tgt := 58) dX4_end_51 rfl ?_
        refine V_putJ kk66 (by decide) fl_X4_53 rfl dX4_end_58 ?_
        refine V_al0n dX4_end_61 ?_
        refine V_getR kk66 (by decide) fl_X4_18 s2 dX4_end_62 ?_
        refine V_al0n dX4_end_65 ?_
        refine V_getR kk66 (by decide) fl_X4_25 s4 dX4_end_66 ?_
        refine V_il1n dX4_end_69 ?_
        refine V_iald (k := i) kC (kdlt kC (by decide)) (by first | rfl | omega) (by omega) (by first | decide | assumption | omega) hrj dX4_end_70 ?_
        refine V_lconst (a := 0) dX4_end_71 rfl ?_
        refine V_last (k := j) kA (kdlt kA (by decide)) (by first | rfl | omega) (by omega) (by first | decide | assumption | omega) dX4_end_72 ?_
        refine V_inc1 dX4_end_73 (by decide) rfl ?_
        refine V_goto (tgt := 9) dX4_end_76 rfl ?_
        exact V_weak (by repeat (first | exact wk_n | refine wk_c (Or.inr rfl) ?_ | refine wk_c (Or.inl rfl) ?_)) (nx _ (by rw [em]; first | (rw [if_pos (by omega)]) | (rw [if_neg (by omega)])))
      · refine V_ll2n dX4_end_41 ?_
        refine V_al0n dX4_end_42 ?_
        refine V_getJ kk66 (by decide) fl_X4_53 u2_s dX4_end_43 ?_
        refine V_lif_ge (tgt := 54) dX4_end_46 dX4_end_47 rfl (by unfold rl; omega) (by unfold rl; omega) (fun b47 => ?_) (fun b47 => ?_)
        · refine V_al0n dX4_end_54 ?_
          refine V_getJ kk66 (by decide) fl_X4_53 u2_s dX4_end_55 ?_
          refine V_putJ kk66 (by decide) fl_X4_53 rfl dX4_end_58 ?_
          refine V_al0n dX4_end_61 ?_
          refine V_getR kk66 (by decide) fl_X4_18 s2 dX4_end_62 ?_
          refine V_al0n dX4_end_65 ?_
          refine V_getR kk66 (by decide) fl_X4_25 s4 dX4_end_66 ?_
          refine V_il1n dX4_end_69 ?_
          refine V_iald (k := i) kC (kdlt kC (by decide)) (by first | rfl | omega) (by omega) (by first | decide | assumption | omega) hrj dX4_end_70 ?_
          refine V_lconst (a := 0) dX4_end_71 rfl ?_
          refine V_last (k := j) kA (kdlt kA (by decide)) (by first | rfl | omega) (by omega) (by first | decide | assumption | omega) dX4_end_72 ?_
          refine V_inc1 dX4_end_73 (by decide) rfl ?_
          refine V_goto (tgt := 9) dX4_end_76 rfl ?_
          exact V_weak (by repeat (first | exact wk_n | refine wk_c (Or.inr rfl) ?_ | refine wk_c (Or.inl rfl) ?_)) (nx _ (by rw [em]; first | (rw [if_pos (by omega)]) | (rw [if_neg (by omega)])))
        · refine V_ll2n dX4_end_50 ?_
          refine V_goto (tgt := 58) dX4_end_51 rfl ?_
          refine V_putJ kk66 (by decide) fl_X4_53 rfl dX4_end_58 ?_
          refine V_al0n dX4_end_61 ?_
          refine V_getR kk66 (by decide) fl_X4_18 s2 dX4_end_62 ?_
          refine V_al0n dX4_end_65 ?_
          refine V_getR kk66 (by decide) fl_X4_25 s4 dX4_end_66 ?_
          refine V_il1n dX4_end_69 ?_
          refine V_iald (k := i) kC (kdlt kC (by decide)) (by first | rfl | omega) (by omega) (by first | decide | assumption | omega) hrj dX4_end_70 ?_
          refine V_lconst (a := 0) dX4_end_71 rfl ?_
          refine V_last (k := j) kA (kdlt kA (by decide)) (by first | rfl | omega) (by omega) (by first | decide | assumption | omega) dX4_end_72 ?_
          refine V_inc1 dX4_end_73 (by decide) rfl ?_
          refine V_goto (tgt := 9) dX4_end_76 rfl ?_
          exact V_weak (by repeat (first | exact wk_n | refine wk_c (Or.inr rfl) ?_ | refine wk_c (Or.inl rfl) ?_)) (nx _ (by rw [em]; first | (rw [if_pos (by omega)]) | (rw [if_neg (by omega)])))
termination_by n - i
theorem c_send (hρ : Fx ρ) (hS : SWp ρ wA wB rA rB) {n : Nat} (hn : n ≤ 2501) (h6 : f 66 6 = (n : Int)) (hr : ∀ i, i < n → ∃ j x : Nat, j < 2501 ∧ f rA i = (j : Int) ∧ g wA j = (x : Int) ∧ x < 1099511627776) (hd : ∀ i i', i < n → i' < n → f rA i = f rA i' → i = i') : C_X4_end [.ref 66] ρ f g (fun r ρ' f' g' => r = none ∧ ρ' = ρ ∧ f' = f ∧ g' = u2 (clW rA wA f g n) 66 12 (mnB rA wA f g n (-1))) := by
  refine Ct.ofV (by decide) rfl (Nat.le_of_ble_eq_true rfl) ?_
  refine V_al0n dX4_end_0 ?_
  refine V_ldc2_w (a := -1) kl_X4_51 rfl dX4_end_1 ?_
  refine V_putJ kk66 (by decide) fl_X4_53 rfl dX4_end_4 ?_
  refine V_iconst dX4_end_7 ?_
  refine V_is1n dX4_end_8 (by decide) rfl ?_
  have hw := w_send (Q := fun r ρ' f' g' => r = none ∧ ρ' = ρ ∧ f' = f ∧ g' = u2 (clW rA wA f g n) 66 12 (mnB rA wA f g n (-1))) (f := f) (g := g) hρ hS hn h6 hr hd ⟨rfl, rfl, rfl, rfl⟩ 0 (by omega) (by simp [mnB])
  rw [clW_0] at hw
  exact hw
end TURNOVER

