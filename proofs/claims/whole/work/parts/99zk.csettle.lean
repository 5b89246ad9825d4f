/-- a sign that waits, as the class has it -/
def cwt (k : Int) : Int := if k = 0 then 15 else swp k
def LVt (k : Nat) : Int := ([0, 0, 3, 1, 2, 4, 4, 4, 4, 4, 4, 5, 5, 6, 6, 0] : List Int).getD k 0
theorem st_4 : ∀ k : Nat, k < 16 → (sT 4).getD k 0 = iz (LVt k) := by decide
theorem LV_r : ∀ k : Nat, k < 16 → 0 ≤ LVt k ∧ LVt k ≤ 6 := by decide
theorem cwt_e {k : Int} (hk : k = 0 ∨ 2 ≤ k ∧ k ≤ 14) : ∃ c : Nat, cwt k = (c : Int) ∧ c < 16 ∧ LVt c = rnk k ∧ 2 ≤ c := by
  rcases (show k = 0 ∨ k = 2 ∨ k = 3 ∨ k = 4 ∨ k = 5 ∨ k = 6 ∨ k = 7 ∨ k = 8 ∨ k = 9 ∨ k = 10 ∨ k = 11 ∨ k = 12 ∨ k = 13 ∨ k = 14 by omega) with rfl | rfl | rfl | rfl | rfl | rfl | rfl | rfl | rfl | rfl | rfl | rfl | rfl | rfl
  · exact ⟨15, rfl, by decide, rfl, by decide⟩
  · exact ⟨2, rfl, by decide, rfl, by decide⟩
  · exact ⟨4, rfl, by decide, rfl, by decide⟩
  · exact ⟨3, rfl, by decide, rfl, by decide⟩
  · exact ⟨5, rfl, by decide, rfl, by decide⟩
  · exact ⟨6, rfl, by decide, rfl, by decide⟩
  · exact ⟨7, rfl, by decide, rfl, by decide⟩
  · exact ⟨8, rfl, by decide, rfl, by decide⟩
  · exact ⟨9, rfl, by decide, rfl, by decide⟩
  · exact ⟨10, rfl, by decide, rfl, by decide⟩
  · exact ⟨11, rfl, by decide, rfl, by decide⟩
  · exact ⟨12, rfl, by decide, rfl, by decide⟩
  · exact ⟨13, rfl, by decide, rfl, by decide⟩
  · exact ⟨14, rfl, by decide, rfl, by decide⟩
section CSETTLE
variable {ρ : RT} {g : JT} {b : Nat}
/-- the knots of a law being read -/
def SRn (b : Nat) (f φ : IT) : Prop := f (b + 17) 2 = φ 104 25 ∧ (∀ i : Nat, (i : Int) < φ 104 25 → f (b + 18) i = swp (φ 130 (64 + i)) ∧ (φ 130 (64 + i) ≤ 1 → f (b + 19) i = φ 131 (64 + i))) ∧ ∀ n, n < 8 → f (b + 24) n = bz (us (rdT φ) n)
/-- the signs that wait -/
def SRw (f φ : IT) : Prop := f 2 2 = φ 104 58 ∧ ∀ i : Nat, (i : Int) < φ 104 58 → f 3 i = cwt (φ 133 i)
def LSR (b : Nat) (f φ : IT) : Prop := SRn b f φ ∧ SRw f φ ∧ f 2 3 = φ 104 60 ∧ f 2 4 = φ 104 62 ∧ f 2 5 = φ 104 63 ∧ f (b + 17) 8 = φ 104 61
/-- what else a law being read leaves -/
def SFr (b : Nat) (f f' : IT) : Prop := ∀ a k, a ≠ 2 → a ≠ 3 → ¬ (a = 4 ∧ 2 ≤ k) → a ≠ b + 17 → a ≠ b + 18 → a ≠ b + 19 → a ≠ b + 24 → f' a k = f a k
theorem SFr.rf {f : IT} : SFr b f f := fun _ _ _ _ _ _ _ _ _ => rfl
theorem SFr.tr {f f' f'' : IT} (h : SFr b f f') (h' : SFr b f' f'') : SFr b f f'' := fun a k q1 q2 q3 q4 q5 q6 q7 => (h' a k q1 q2 q3 q4 q5 q6 q7).trans (h a k q1 q2 q3 q4 q5 q6 q7)
theorem SFr.up {f f' : IT} {c j : Nat} {x : Int} (h : SFr b f f') (hc : c = 2 ∨ c = 3 ∨ c = b + 17 ∨ c = b + 18 ∨ c = b + 19 ∨ c = b + 24) : SFr b f (u2 f' c j x) := fun a k q1 q2 q3 q4 q5 q6 q7 => (u2_o (by omega)).trans (h a k q1 q2 q3 q4 q5 q6 q7)
theorem SFr.kt {f f' : IT} (h : KT4 f f') : SFr b f f' := fun a k _ _ q3 _ _ _ _ => h a k q3
theorem SFr.rff {f f' : IT} {w : Int} (h : SFr b f f') : SFr b f (rfF w f') := (h.up (Or.inl rfl)).up (Or.inl rfl)
theorem ladF_o {n : Nat} {s v : Int} {f : IT} {a k : Nat} (h1 : a ≠ b + 17 ∨ k ≠ 2) (h2 : a ≠ b + 18) (h3 : a ≠ b + 19) (h4 : a ≠ b + 24) : ladF b n s v f a k = f a k := by
  unfold ladF
  split
  · rw [u2_o (by omega), u2_o (by omega), u2_o (by omega), u2_o (by omega)]
  · rw [u2_o (by omega), u2_o (by omega), u2_o (by omega)]
theorem SFr.lad {f f' : IT} {n : Nat} {s v : Int} (h : SFr b f f') : SFr b f (ladF b n s v f') := fun a k q1 q2 q3 q4 q5 q6 q7 => (ladF_o (by omega) q5 q6 q7).trans (h a k q1 q2 q3 q4 q5 q6 q7)
theorem us_iff {φ : IT} {n : Nat} : us (rdT φ) n = decide (∃ i : Nat, i < (φ 104 25).toNat ∧ φ 130 (64 + i) = 1 ∧ φ 131 (64 + i) = (n : Int)) := rfl
theorem SRn.add {f φ φ' : IT} {n : Nat} {k s v : Int} (h : SRn b f φ) (h25 : φ 104 25 = (n : Int)) (e25 : φ' 104 25 = (n : Int) + 1) (hk : 0 ≤ k ∧ k ≤ 14) (hs : s = swp k) (e130 : φ' 130 (64 + n) = k) (e131 : k ≤ 1 → φ' 131 (64 + n) = v) (hv : k = 1 → 0 ≤ v ∧ v < 8) (o130 : ∀ i, i < n → φ' 130 (64 + i) = φ 130 (64 + i)) (o131 : ∀ i, i < n → φ' 131 (64 + i) = φ 131 (64 + i)) : SRn b (ladF b n s v f) φ' := by
  have s1 : s = 1 ↔ k = 1 := by rw [hs]; unfold swp; (repeat' split) <;> omega
  have l17 : ladF b n s v f (b + 17) 2 = (n : Int) + 1 := by
    unfold ladF
    split
    · rw [u2_o (by omega), u2_s]
    · rw [u2_s]
  have l18 : ∀ i, ladF b n s v f (b + 18) i = if i = n then s else f (b + 18) i := fun i => by
    unfold ladF
    by_cases e : i = n
    · rw [if_pos e, e]
      split
      · rw [u2_o (by omega), u2_o (by omega), u2_o (by omega), u2_s]
      · rw [u2_o (by omega), u2_o (by omega), u2_s]
    · rw [if_neg e]
      split
      · rw [u2_o (by omega), u2_o (by omega), u2_o (by omega), u2_o (by omega)]
      · rw [u2_o (by omega), u2_o (by omega), u2_o (by omega)]
  have l19 : ∀ i, ladF b n s v f (b + 19) i = if i = n then v else f (b + 19) i := fun i => by
    unfold ladF
    by_cases e : i = n
    · rw [if_pos e, e]
      split
      · rw [u2_o (by omega), u2_o (by omega), u2_s]
      · rw [u2_o (by omega), u2_s]
    · rw [if_neg e]
      split
      · rw [u2_o (by omega), u2_o (by omega), u2_o (by omega), u2_o (by omega)]
      · rw [u2_o (by omega), u2_o (by omega), u2_o (by omega)]
  have l24 : ∀ i, ladF b n s v f (b + 24) i = if k = 1 ∧ i = v.toNat then 1 else f (b + 24) i := fun i => by
    unfold ladF
    by_cases e : k = 1
    · rw [if_pos ⟨s1.mpr e, hv e⟩]
      by_cases e2 : i = v.toNat
      · rw [if_pos ⟨e, e2⟩, e2, u2_s]
      · rw [if_neg (by omega), u2_o (by omega), u2_o (by omega), u2_o (by omega), u2_o (by omega)]
    · rw [if_neg (fun z => e (s1.mp z.1)), if_neg (fun z => e z.1), u2_o (by omega), u2_o (by omega), u2_o (by omega)]
  obtain ⟨h1, h2, h3⟩ := h
  refine ⟨by rw [l17, e25], fun i hi => ?_, fun m hm => ?_⟩
  · rw [l18, l19]
    by_cases e : i = n
    · rw [if_pos e, if_pos e, e, e130]
      exact ⟨hs, fun z => (e131 z).symm⟩
    · rw [if_neg e, if_neg e, o130 i (by omega), o131 i (by omega)]
      exact h2 i (by omega)
  · rw [l24, us_iff, e25, show ((n : Int) + 1).toNat = n + 1 by omega]
    have h3m := h3 m hm
    rw [us_iff, h25, Int.toNat_natCast] at h3m
    by_cases e : k = 1 ∧ m = v.toNat
    · rw [if_pos e, decide_eq_true]
      · rfl
      · exact ⟨n, by omega, by rw [e130]; exact e.1, by rw [e131 (by omega)]; have := hv e.1; omega⟩
    · rw [if_neg e, h3m]
      congr 2
      refine propext ⟨fun ⟨i, z1, z2, z3⟩ => ⟨i, by omega, by rw [o130 i z1]; exact z2, by rw [o131 i z1]; exact z3⟩, fun ⟨i, z1, z2, z3⟩ => ?_⟩
      by_cases ei : i = n
      · exfalso
        subst ei
        rw [e130] at z2
        rw [e131 (by omega)] at z3
        exact e ⟨z2, by omega⟩
      · exact ⟨i, by omega, by rw [← o130 i (by omega)]; exact z2, by rw [← o131 i (by omega)]; exact z3⟩
theorem SRn.cg {f f' φ φ' : IT} (h : SRn b f φ) (e1 : f' (b + 17) 2 = f (b + 17) 2) (e2 : ∀ k, f' (b + 18) k = f (b + 18) k) (e3 : ∀ k, f' (b + 19) k = f (b + 19) k) (e4 : ∀ k, f' (b + 24) k = f (b + 24) k) (e25 : φ' 104 25 = φ 104 25) (e130 : φ' 130 = φ 130) (e131 : φ' 131 = φ 131) : SRn b f' φ' := by
  unfold SRn at *
  rw [e1, e25, e130, e131]
  refine ⟨h.1, fun i hi => by rw [e2, e3]; exact h.2.1 i hi, fun n hn => ?_⟩
  rw [e4, h.2.2 n hn, us_iff, us_iff, e25, e130, e131]
/-- what one sign bound does to the reference's knots -/
theorem bnd1_eff {φ : IT} {n w : Nat} (h25 : φ 104 25 = (n : Int)) : bnd1 φ 104 25 = (n : Int) + 1 ∧ bnd1 φ 130 (64 + n) = φ 133 (φ 104 58 - 1).toNat ∧ (∀ i, i ≠ 64 + n → bnd1 φ 130 i = φ 130 i) ∧ (∀ i, i ≠ 64 + n → bnd1 φ 131 i = φ 131 i) := by
  unfold bnd1
  have d1 : ∀ ψ : IT, drpF ψ 104 25 = ψ 104 25 := fun ψ => by unfold drpF; rw [u2_o (by omega)]
  have d2 : ∀ ψ : IT, ∀ a, a = 130 ∨ a = 131 → ∀ k, drpF ψ a k = ψ a k := fun ψ a ha k => by unfold drpF; rw [u2_o (by omega)]
  have gr : ∀ (k x y : Int) (ψ : IT), ψ 104 25 = (n : Int) → grwF k x y ψ 104 25 = (n : Int) + 1 ∧ grwF k x y ψ 130 (64 + n) = k ∧ (∀ i, i ≠ 64 + n → grwF k x y ψ 130 i = ψ 130 i) ∧ (∀ i, i ≠ 64 + n → grwF k x y ψ 131 i = ψ 131 i) := fun k x y ψ e => by
    unfold grwF
    rw [e, Int.toNat_natCast]
    refine ⟨u2_s, ?_, fun i hi => ?_, fun i hi => ?_⟩
    · rw [u2_o (by omega), u2_o (by omega), u2_o (by omega), u2_o (by omega), u2_o (by omega), u2_s]
    · rw [u2_o (by omega), u2_o (by omega), u2_o (by omega), u2_o (by omega), u2_o (by omega), u2_o (by omega)]
    · rw [u2_o (by omega), u2_o (by omega), u2_o (by omega), u2_o (by omega), u2_o (by omega), u2_o (by omega)]
  split
  · rename_i e
    obtain ⟨a1, a2, a3, a4⟩ := gr 2 (drpV (u2 φ 104 58 (φ 104 58 - 1))) (-1) (drpF (u2 φ 104 58 (φ 104 58 - 1))) (by rw [d1, u2_o (by omega)]; exact h25)
    exact ⟨a1, by rw [a2, e], fun i hi => by rw [a3 i hi, d2 _ _ (Or.inl rfl), u2_o (by omega)], fun i hi => by rw [a4 i hi, d2 _ _ (Or.inr rfl), u2_o (by omega)]⟩
  · obtain ⟨a1, a2, a3, a4⟩ := gr (φ 133 (φ 104 58 - 1).toNat) (drpV (drpF (u2 φ 104 58 (φ 104 58 - 1)))) (drpV (u2 φ 104 58 (φ 104 58 - 1))) (drpF (drpF (u2 φ 104 58 (φ 104 58 - 1)))) (by rw [d1, d1, u2_o (by omega)]; exact h25)
    exact ⟨a1, a2, fun i hi => by rw [a3 i hi, d2 _ _ (Or.inl rfl), d2 _ _ (Or.inl rfl), u2_o (by omega)], fun i hi => by rw [a4 i hi, d2 _ _ (Or.inr rfl), d2 _ _ (Or.inr rfl), u2_o (by omega)]⟩
theorem w_settle {Q : QT} {f0 : IT} (hρ : Fx ρ) (hb : b = 5 ∨ b = 30) {lo : Nat} {le : Int} (hle : 1 ≤ le ∧ le ≤ 6) {R : IT} (hQ : ∀ f', SFr b f0 f' → (∀ k, f' 4 k = f0 4 k) → f' 2 6 = f0 2 6 → f' 2 7 = f0 2 7 → LSR b f' R → Q none ρ f' g) (w : Nat) (f φ : IT) (H : SJ lo 1 0 φ) (hS : LSR b f φ) (hw : (φ 104 58).toNat = w) (hF : SFr b f0 f) (h4 : ∀ k, f 4 k = f0 4 k) (h26 : f 2 6 = f0 2 6) (h27 : f 2 7 = f0 2 7) (hR : R = bndR le w φ) :
    V_X2_settle Q 0 [.ref 2, .ref (b + 17), .int (iz le)] [] ρ f g := by
  have H58 := H.1
  have rng := H.rng (by omega)
  obtain ⟨sn, sw, s3, s4, s5, s8⟩ := hS
  have hn58 : φ 104 58 = (w : Int) := by omega
  cases w with
  | zero =>
    simp only [bndR] at hR
    subst hR
    have e2 : f 2 2 = 0 := by rw [sw.1, hn58]; rfl
    refine V_al0n dX2_settle_0 ?_
    refine V_getI kk2 (by decide) fl_X2_17 e2 dX2_settle_1 ?_
    refine V_if_le (tgt := 53) dX2_settle_4 rfl (by first | assumption | (unfold ri at *; omega)) (fun b4 => ?_) (fun b4 => ?_)
    · exact V_return rfl (hQ f hF h4 h26 h27 ⟨sn, sw, s3, s4, s5, s8⟩) dX2_settle_53
    · exfalso; omega
  | succ w' =>
    have e2 : f 2 2 = (w' : Int) + 1 := by rw [sw.1, hn58]; omega
    have hk := H.2.2.2.2.1 w' (by omega)
    have f3 := sw.2 w' (by omega)
    obtain ⟨c, c1, c2, c3, c4⟩ := cwt_e hk
    rw [c1] at f3
    have lr := LV_r c c2
    have et : (φ 104 58 - 1).toNat = w' := by omega
    rw [bndR, et] at hR
    by_cases cl : le ≤ rnk (φ 133 w')
    · rw [if_pos ⟨by omega, cl⟩] at hR
      have kne : φ 133 w' ≠ 0 := fun z => by rw [z] at cl; have : rnk 0 = 0 := rfl; omega
      have cw : cwt (φ 133 w') = swp (φ 133 w') := by unfold cwt; rw [if_neg kne]
      obtain ⟨p1, p2, p3⟩ := H.pop (by omega) (by rw [et]; exact kne)
      obtain ⟨n, hn⟩ : ∃ n : Nat, φ 104 25 = (n : Int) := ⟨(φ 104 25).toNat, by omega⟩
      have hn64 : n < 64 := by have := p1.rng (by omega); have := (bnd1_eff (w := 0) hn).1; omega
      obtain ⟨a1, a2, a3, a4⟩ := bnd1_eff (w := 0) hn
      rw [et] at a2
      have bk : BK φ (bnd1 φ) := BK.rf.bd1
      have sn1 : SRn b (u2 f 2 2 ((w' : Int) + 1 - 1)) φ := sn.cg (u2_o (by omega)) (fun k => u2_o (by omega)) (fun k => u2_o (by omega)) (fun k => u2_o (by omega)) rfl rfl rfl
      have f217 : (u2 f 2 2 ((w' : Int) + 1 - 1)) (b + 17) 2 = (n : Int) := by rw [sn1.1]; exact hn
      have hadd := c_ladd (g := g) (f := u2 f 2 2 ((w' : Int) + 1 - 1)) hρ hb hn64 f217 (s := (c : Int)) (v := 0) (by unfold ri; omega) (by unfold ri; omega)
      have sn2 := sn1.add (φ' := bnd1 φ) (k := φ 133 w') (s := (c : Int)) (v := 0) hn a1 (by omega) (by rw [← c1, cw]) a2 (fun z => by omega) (fun z => by omega) (fun i hi => a3 _ (by omega)) (fun i hi => a4 _ (by omega))
      refine V_al0n dX2_settle_0 ?_
      refine V_getI kk2 (by decide) fl_X2_17 e2 dX2_settle_1 ?_
      refine V_if_le (tgt := 53) dX2_settle_4 rfl (by first | assumption | (unfold ri at *; omega)) (fun b4 => ?_) (fun b4 => ?_)
      · exfalso; omega
      · refine V_gets (j := 4) (by decide) fs_X2_186 dX2_settle_7 ?_
        refine V_al0n dX2_settle_10 ?_
        refine V_getR kk2 (by decide) fl_X2_13 (fx_2_1 hρ) dX2_settle_11 ?_
        refine V_al0n dX2_settle_14 ?_
        refine V_getI kk2 (by decide) fl_X2_17 e2 dX2_settle_15 ?_
        refine V_iconst dX2_settle_18 ?_
        refine V_isub dX2_settle_19 ?_
        refine V_iald (k := w') kk3 (by decide) (by first | rfl | omega) (by omega) (by first | decide | assumption | omega) f3 dX2_settle_20 ?_
        refine V_stld (j := 4) (by decide) rfl (show c < 16 from c2) (st_4 c c2) dX2_settle_21 ?_
        refine V_il2n dX2_settle_22 ?_
        refine V_icmp_lt (tgt := 53) dX2_settle_23 rfl (by unfold ri; omega) (by unfold ri; omega) (fun b23 => ?_) (fun b23 => ?_)
        · exfalso; omega
        · refine V_al0n dX2_settle_26 ?_
          refine V_dup dX2_settle_27 rfl ?_
          refine V_getI kk2 (by decide) fl_X2_17 e2 dX2_settle_28 ?_
          refine V_iconst dX2_settle_31 ?_
          refine V_isub dX2_settle_32 ?_
          refine V_putI kk2 (by decide) fl_X2_17 rfl dX2_settle_33 ?_
          refine V_al1n dX2_settle_36 ?_
          refine V_al0n dX2_settle_37 ?_
          refine V_getR kk2 (by decide) fl_X2_13 (fx_2_1 hρ) dX2_settle_38 ?_
          refine V_al0n dX2_settle_41 ?_
          refine V_getI kk2 (by decide) fl_X2_17 u2_s dX2_settle_42 ?_
          refine V_iald (k := w') kk3 (by decide) (by first | rfl | omega) (by omega) (by first | decide | assumption | omega) ((u2_o (by omega)).trans f3) dX2_settle_45 ?_
          refine V_iconst dX2_settle_46 ?_
          refine V_callV (as := [_, _]) ml_X2_180 im_X1_add se_X1_add (kb_17 hb) (by decide) (kl_17 hb) dX2_settle_47 rfl rfl (by decide) (by decide) (Nat.le_of_ble_eq_true rfl) (by decide) (by decide) rfl (hadd) ?_
          refine pq4 ?_
          refine V_goto (tgt := 0) dX2_settle_50 rfl ?_
          refine w_settle hρ hb hle hQ w' _ (bnd1 φ) p1 ⟨sn2, ⟨?_, fun i hi => ?_⟩, ?_, ?_, ?_, ?_⟩ (by rw [p2]; omega) (SFr.lad (hF.up (Or.inl rfl))) (fun k => by rw [ladF_o (by omega) (by omega) (by omega) (by omega), u2_o (by omega)]; exact h4 k) (by rw [ladF_o (by omega) (by omega) (by omega) (by omega), u2_o (by omega)]; exact h26) (by rw [ladF_o (by omega) (by omega) (by omega) (by omega), u2_o (by omega)]; exact h27) hR
          · rw [ladF_o (by omega) (by omega) (by omega) (by omega), u2_s, p2]; omega
          · rw [ladF_o (by omega) (by omega) (by omega) (by omega), u2_o (by omega), p3]; exact sw.2 i (by omega)
          · rw [ladF_o (by omega) (by omega) (by omega) (by omega), u2_o (by omega), bk _ _ (by omega) (by omega) (by omega)]; exact s3
          · rw [ladF_o (by omega) (by omega) (by omega) (by omega), u2_o (by omega), bk _ _ (by omega) (by omega) (by omega)]; exact s4
          · rw [ladF_o (by omega) (by omega) (by omega) (by omega), u2_o (by omega), bk _ _ (by omega) (by omega) (by omega)]; exact s5
          · rw [ladF_o (by omega) (by omega) (by omega) (by omega), u2_o (by omega), bk _ _ (by omega) (by omega) (by omega)]; exact s8
    · rw [if_neg (fun z => cl z.2)] at hR
      subst hR
      refine V_al0n dX2_settle_0 ?_
      refine V_getI kk2 (by decide) fl_X2_17 e2 dX2_settle_1 ?_
      refine V_if_le (tgt := 53) dX2_settle_4 rfl (by first | assumption | (unfold ri at *; omega)) (fun b4 => ?_) (fun b4 => ?_)
      · exfalso; omega
      · refine V_gets (j := 4) (by decide) fs_X2_186 dX2_settle_7 ?_
        refine V_al0n dX2_settle_10 ?_
        refine V_getR kk2 (by decide) fl_X2_13 (fx_2_1 hρ) dX2_settle_11 ?_
        refine V_al0n dX2_settle_14 ?_
        refine V_getI kk2 (by decide) fl_X2_17 e2 dX2_settle_15 ?_
        refine V_iconst dX2_settle_18 ?_
        refine V_isub dX2_settle_19 ?_
        refine V_iald (k := w') kk3 (by decide) (by first | rfl | omega) (by omega) (by first | decide | assumption | omega) f3 dX2_settle_20 ?_
        refine V_stld (j := 4) (by decide) rfl (show c < 16 from c2) (st_4 c c2) dX2_settle_21 ?_
        refine V_il2n dX2_settle_22 ?_
        refine V_icmp_lt (tgt := 53) dX2_settle_23 rfl (by unfold ri; omega) (by unfold ri; omega) (fun b23 => ?_) (fun b23 => ?_)
        · exact V_return rfl (hQ f hF h4 h26 h27 ⟨sn, sw, s3, s4, s5, s8⟩) dX2_settle_53
        · exfalso; omega
termination_by w
theorem c_settle {f φ : IT} (hρ : Fx ρ) (hb : b = 5 ∨ b = 30) {lo : Nat} {le : Int} (hle : 1 ≤ le ∧ le ≤ 6) (H : SJ lo 1 0 φ) (hS : LSR b f φ) : C_X2_settle [.ref 2, .ref (b + 17), .int (iz le)] ρ f g (fun r ρ' f' g' => r = none ∧ ρ' = ρ ∧ SFr b f f' ∧ (∀ k, f' 4 k = f 4 k) ∧ f' 2 6 = f 2 6 ∧ f' 2 7 = f 2 7 ∧ LSR b f' (bndF le φ) ∧ g' = g) := by
  refine Ct.ofV (by decide) rfl (Nat.le_of_ble_eq_true rfl) ?_
  exact w_settle hρ hb hle (fun f' h1 h2 h3 h4 h5 => ⟨rfl, rfl, h1, h2, h3, h4, h5, rfl⟩) _ f φ H hS rfl SFr.rf (fun _ => rfl) rfl rfl rfl
end CSETTLE

