section CLANE
variable {ρ : RT} {g : JT} {b n : Nat}
/-- a mark: bend or wet -/
def mkF (k : Int) (a n : Nat) (φ : IT) : IT := keyT k (u2 φ a (6 + n) (bz (keyB k φ)))
theorem mkF_o {φ : IT} {k : Int} {a c j : Nat} (h : ¬ (c = 104 ∧ 7 ≤ j ∧ j ≤ 10)) (h2 : ¬ (c = a ∧ j = 6 + n)) : mkF k a n φ c j = φ c j := by
  unfold mkF keyT
  split
  · rw [tkF_o h, u2_o h2]
  · rw [u2_o h2]
theorem mkF_s {φ : IT} {k : Int} {a : Nat} (h : a ≠ 104) : mkF k a n φ a (6 + n) = bz (keyB k φ) := by
  unfold mkF keyT
  split
  · rw [tkF_o (by omega), u2_s]
  · rw [u2_s]
theorem mkF_pk {φ : IT} {k : Int} {a : Nat} (h : 107 ≤ a) (hK : PK φ) : PK (mkF k a n φ) := by
  unfold mkF keyT
  split
  · exact (hK.up (by omega) (by omega) (by omega)).tk
  · exact hK.up (by omega) (by omega) (by omega)
/-- reading the marks: bend into the third cell, wet into the fourth -/
theorem c_marks {f φ : IT} (hρ : Fx ρ) (hb : b = 5 ∨ b = 30) (hR : RWs b 0 n f) (hn : n < 6) (hc : CUR f φ) (hK : PK φ) (h2 : f (b + 4) (n * 4 + 2) = 0) (h3 : f (b + 4) (n * 4 + 3) = 0) :
    C_X2_readMarks [.ref 2, .ref (b + 2)] ρ f g (fun r ρ' f' g' => r = none ∧ ρ' = ρ ∧ (∀ a k, ¬ (a = 4 ∧ 2 ≤ k) → ¬ (a = b + 4 ∧ (k = n * 4 + 2 ∨ k = n * 4 + 3)) → f' a k = f a k) ∧ f' (b + 4) (n * 4 + 2) = bz (keyB 8 φ) ∧ f' (b + 4) (n * 4 + 3) = bz (keyB 9 (mkF 8 110 n φ)) ∧ CUR f' (mkF 9 111 n (mkF 8 110 n φ)) ∧ g' = g) := by
  have hkd := kdR (i := 0) hb (by omega)
  have w4 : wdK 0 = 4 := rfl
  have m6 : mxK 0 = 6 := rfl
  have key := fun (f1 φ1 : IT) (h : CUR f1 φ1) (hK1 : PK φ1) (k : Int) hk => h.key hK1 (k := k) hk
  -- the second mark
  have go : ∀ (f1 : IT) (ψ : IT), CUR f1 ψ → PK ψ → RWs b 0 n f1 → f1 (b + 4) (n * 4 + 3) = 0 → ∀ Q : QT, (∀ f' : IT, (∀ a k, ¬ (a = 4 ∧ 2 ≤ k) → ¬ (a = b + 4 ∧ k = n * 4 + 3) → f' a k = f1 a k) → f' (b + 4) (n * 4 + 3) = bz (keyB 9 ψ) → CUR f' (mkF 9 111 n ψ) → Q none ρ f' g) → V_X2_readMarks Q 25 [.ref 2, .ref (b + 2)] [] ρ f1 g := by
    intro f1 ψ hc1 hK1 hR1 h31 Q hQ
    obtain ⟨q1, q2, -, -⟩ := hc1.rr hK1
    have hk9 := key f1 ψ hc1 hK1 9 (by omega)
    have e25 : cwK 9 = 25 := rfl
    rw [e25] at hk9
    cases c : keyB 9 ψ with
    | true =>
      have e6 := hk9.mpr c
      have em : mkF 9 111 n ψ = tkF (u2 ψ 111 (6 + n) 1) := by unfold mkF keyT; rw [keyB_u (by omega), c, if_pos rfl]; rfl
      have hp := hc1.pre (φ' := u2 ψ 111 (6 + n) 1) hK1.1 (u2_row (by omega)) (u2_o (by omega)) (u2_o (by omega))
      have hput := c_rput (i := 0) (g := g) (v := 1) hρ hb (by omega) hR1 hn (j := 3) (by omega)
      have fo : ∀ a k, ¬ (a = b + 4 ∧ k = n * 4 + 3) → u2 f1 (b + 4) (n * 4 + 3) 1 a k = f1 a k := fun a k z => u2_o z
      have hp2 : PRE (u2 f1 (b + 4) (n * 4 + 3) 1) (tkF (u2 ψ 111 (6 + n) 1)) := hp.cg (fun k => fo 4 k (by omega)) (fun k => fo 1 k (by omega)) rfl (fun _ _ _ => rfl)
      refine V_al0n dX2_readMarks_25 ?_
      refine V_getR kk2 (by decide) fl_X2_42 (fx_2_0 hρ) dX2_readMarks_26 ?_
      refine V_getI kk4 (by decide) fl_X2_73 rfl dX2_readMarks_29 ?_
      refine V_bipush dX2_readMarks_32 rfl ?_
      refine V_icmp_ne (tgt := 50) dX2_readMarks_34 rfl (by unfold ri; omega) (by unfold ri; omega) (fun b34 => ?_) (fun b34 => ?_)
      · exfalso; omega
      · refine V_al1n dX2_readMarks_37 ?_
        refine V_iconst dX2_readMarks_38 ?_
        refine V_iconst dX2_readMarks_39 ?_
        refine V_callV (as := [_, _]) ml_X2_137 im_X3_put se_X3_put hkd.1 (by decide) (kdlt hkd.1 (by decide)) dX2_readMarks_40 rfl rfl (by decide) (by decide) (Nat.le_of_ble_eq_true rfl) (by decide) (by decide) rfl (hput) ?_
        refine pq4 ?_
        refine V_al0n dX2_readMarks_43 ?_
        refine V_getR kk2 (by decide) fl_X2_42 (fx_2_0 hρ) dX2_readMarks_44 ?_
        refine V_callV (as := []) ml_X2_55 im_X6_next se_X6_next kk4 (by decide) (by decide) dX2_readMarks_47 rfl rfl (by decide) (by decide) (Nat.le_of_ble_eq_true rfl) (by decide) (by decide) rfl (c_nextP hρ hp2) ?_
        rintro r47 ρ47 f47 g47 ⟨rfl, s47_0, k47, c47, s47_1⟩
        obtain rfl := s47_0.symm
        obtain rfl := s47_1.symm
        exact V_return rfl (hQ f47 (fun a k z1 z2 => (k47 a k z1).trans (fo a k z2)) (by rw [k47 _ _ (by omega)]; show u2 f1 (b + 4) (n * 4 + 3) 1 (b + 4) (n * 4 + 3) = _; rw [u2_s, c]; rfl) (by rw [em]; exact c47)) dX2_readMarks_50
    | false =>
      have e6 : ¬ f1 4 6 = 25 := fun z => by rw [hk9.mp z] at c; cases c
      have em : mkF 9 111 n ψ = u2 ψ 111 (6 + n) 0 := by unfold mkF keyT; rw [keyB_u (by omega), c, if_neg Bool.false_ne_true]; rfl
      refine V_al0n dX2_readMarks_25 ?_
      refine V_getR kk2 (by decide) fl_X2_42 (fx_2_0 hρ) dX2_readMarks_26 ?_
      refine V_getI kk4 (by decide) fl_X2_73 rfl dX2_readMarks_29 ?_
      refine V_bipush dX2_readMarks_32 rfl ?_
      refine V_icmp_ne (tgt := 50) dX2_readMarks_34 rfl (by unfold ri; omega) (by unfold ri; omega) (fun b34 => ?_) (fun b34 => ?_)
      · exact V_return rfl (hQ f1 (fun _ _ _ _ => rfl) (by rw [h31, c]; rfl) (by rw [em]; exact hc1.cg (fun _ => rfl) (fun _ => rfl) (u2_row (by omega)) (fun k z1 z2 => u2_o (by omega)))) dX2_readMarks_50
      · exfalso; omega
  obtain ⟨q1, q2, -, -⟩ := hc.rr hK
  have hk8 := key f φ hc hK 8 (by omega)
  have e24 : cwK 8 = 24 := rfl
  rw [e24] at hk8
  have hKm : PK (mkF 8 110 n φ) := mkF_pk (by omega) hK
  refine Ct.ofV (by decide) rfl (Nat.le_of_ble_eq_true rfl) ?_
  cases c : keyB 8 φ with
  | true =>
    have e6 := hk8.mpr c
    have em : mkF 8 110 n φ = tkF (u2 φ 110 (6 + n) 1) := by unfold mkF keyT; rw [keyB_u (by omega), c, if_pos rfl]; rfl
    have hp := hc.pre (φ' := u2 φ 110 (6 + n) 1) hK.1 (u2_row (by omega)) (u2_o (by omega)) (u2_o (by omega))
    have hput := c_rput (i := 0) (g := g) (v := 1) hρ hb (by omega) hR hn (j := 2) (by omega)
    have fo : ∀ a k, ¬ (a = b + 4 ∧ k = n * 4 + 2) → u2 f (b + 4) (n * 4 + 2) 1 a k = f a k := fun a k z => u2_o z
    have hp2 : PRE (u2 f (b + 4) (n * 4 + 2) 1) (tkF (u2 φ 110 (6 + n) 1)) := hp.cg (fun k => fo 4 k (by omega)) (fun k => fo 1 k (by omega)) rfl (fun _ _ _ => rfl)
    rw [← em] at hp2
    refine V_al0n dX2_readMarks_0 ?_
    refine V_getR kk2 (by decide) fl_X2_42 (fx_2_0 hρ) dX2_readMarks_1 ?_
    refine V_getI kk4 (by decide) fl_X2_73 rfl dX2_readMarks_4 ?_
    refine V_bipush dX2_readMarks_7 rfl ?_
    refine V_icmp_ne (tgt := 25) dX2_readMarks_9 rfl (by unfold ri; omega) (by unfold ri; omega) (fun b9 => ?_) (fun b9 => ?_)
    · exfalso; omega
    · refine V_al1n dX2_readMarks_12 ?_
      refine V_iconst dX2_readMarks_13 ?_
      refine V_iconst dX2_readMarks_14 ?_
      refine V_callV (as := [_, _]) ml_X2_137 im_X3_put se_X3_put hkd.1 (by decide) (kdlt hkd.1 (by decide)) dX2_readMarks_15 rfl rfl (by decide) (by decide) (Nat.le_of_ble_eq_true rfl) (by decide) (by decide) rfl (hput) ?_
      refine pq4 ?_
      refine V_al0n dX2_readMarks_18 ?_
      refine V_getR kk2 (by decide) fl_X2_42 (fx_2_0 hρ) dX2_readMarks_19 ?_
      refine V_callV (as := []) ml_X2_55 im_X6_next se_X6_next kk4 (by decide) (by decide) dX2_readMarks_22 rfl rfl (by decide) (by decide) (Nat.le_of_ble_eq_true rfl) (by decide) (by decide) rfl (c_nextP hρ hp2) ?_
      rintro r22 ρ22 f22 g22 ⟨rfl, s22_0, k22, c22, s22_1⟩
      obtain rfl := s22_0.symm
      obtain rfl := s22_1.symm
      have k22b : ∀ a k, ¬ (a = 4 ∧ 2 ≤ k) → ¬ (a = b + 4 ∧ k = n * 4 + 2) → f22 a k = f a k := fun a k z1 z2 => (k22 a k z1).trans (fo a k z2)
      exact go f22 _ c22 hKm ⟨(k22b _ _ (by omega) (by omega)).trans hR.1, (k22b _ _ (by omega) (by omega)).trans hR.2.1, (k22b _ _ (by omega) (by omega)).trans hR.2.2⟩ ((k22b _ _ (by omega) (by omega)).trans h3) _ (fun f' a1 a2 a3 => ⟨rfl, rfl, fun a k z1 z2 => (a1 a k z1 (by omega)).trans (k22b a k z1 (by omega)), by rw [a1 _ _ (by omega) (by omega), k22 _ _ (by omega)]; exact u2_s, a2, a3, rfl⟩)
  | false =>
    have e6 : ¬ f 4 6 = 24 := fun z => by rw [hk8.mp z] at c; cases c
    have em : mkF 8 110 n φ = u2 φ 110 (6 + n) 0 := by unfold mkF keyT; rw [keyB_u (by omega), c, if_neg Bool.false_ne_true]; rfl
    have hc2 : CUR f (mkF 8 110 n φ) := by rw [em]; exact hc.cg (fun _ => rfl) (fun _ => rfl) (u2_row (by omega)) (fun k z1 z2 => u2_o (by omega))
    refine V_al0n dX2_readMarks_0 ?_
    refine V_getR kk2 (by decide) fl_X2_42 (fx_2_0 hρ) dX2_readMarks_1 ?_
    refine V_getI kk4 (by decide) fl_X2_73 rfl dX2_readMarks_4 ?_
    refine V_bipush dX2_readMarks_7 rfl ?_
    refine V_icmp_ne (tgt := 25) dX2_readMarks_9 rfl (by unfold ri; omega) (by unfold ri; omega) (fun b9 => ?_) (fun b9 => ?_)
    · exact go f _ hc2 hKm hR h3 _ (fun f' a1 a2 a3 => ⟨rfl, rfl, fun a k z1 z2 => a1 a k z1 (by omega), by rw [a1 _ _ (by omega) (by omega), h2]; rfl, a2, a3, rfl⟩)
    · exfalso; omega
/-- the line of a stretch, its end with it -/
def laneR (n : Nat) (φ : IT) : Bool × IT := thn (hdF 0 n φ) fun φ1 => thn (nmsF 0 n 2 0 φ1) fun φ3 => lnE (u2 (mkF 9 111 n (mkF 8 110 n φ3)) 104 20 ((n : Int) + 1))
theorem laneR_F {φ : IT} (hn : φ 104 20 = (n : Int)) : thn (laneF φ) lnE = laneR n φ := by
  unfold laneF laneR hdF
  rw [show φ 104 (20 + 0) = φ 104 20 from rfl, show ((mxK 0 : Nat) : Int) = 6 from rfl]
  by_cases c : φ 104 20 = 6
  · rw [if_pos c, if_pos c, thn_f rfl, thn_f rfl]
  · rw [if_neg c, if_neg c, hn, Int.toNat_natCast]
    unfold laneN
    simp only [thn_as, thn_tt, nmsF]
    rfl
theorem c_rowL {f φ : IT} (hρ : Fx ρ) (hb : b = 5 ∨ b = 30) (hn : φ 104 20 = (n : Int)) (hC : CT (rdT φ) b f) (hc : CUR f φ) (hG : Good φ) :
    C_X2_readRow [.ref 2, .ref b, .int (iz 0)] ρ f g (fun r ρ' f' g' => r = some (.int (iz (bz (laneR n φ).1))) ∧ ρ' = ρ ∧ LnP b (laneR n φ) f f' ∧ (∀ k, f' b k = f b k ∧ f' (b + 17) k = f (b + 17) k) ∧ g' = g) := by
  have hi5 : 0 < 5 := by omega
  have hK := hG.1
  have w4 : wdK 0 = 4 := rfl
  have m6 : mxK 0 = 6 := rfl
  have hnm : n ≤ mxK 0 := by have := hG.2.cni hi5; have e : φ 104 (20 + 0) = φ 104 20 := rfl; omega
  obtain ⟨hR, hN⟩ := hC.rws hi5 (n := n) hn
  have hkd := kdR hb hi5
  have bad : ∀ (f' φ' : IT), laneR n φ = (false, φ') → FLm f' φ' → RowKf b 0 n f f' → (some (Value.int (iz (bz false))) = some (Value.int (iz (bz (laneR n φ).1))) ∧ ρ = ρ ∧ LnP b (laneR n φ) f f' ∧ (∀ k, f' b k = f b k ∧ f' (b + 17) k = f (b + 17) k) ∧ g = g) := fun f' φ' h1 h2 h3 => by
    obtain ⟨l1, l2, l3⟩ := h3.ln hb hi5
    rw [h1]
    exact ⟨rfl, rfl, ⟨l1, l2, (l3 4).1, (fun q => by (cases q)), fun _ => h2⟩, l3, rfl⟩
  refine Ct.ofV (by decide) rfl (Nat.le_of_ble_eq_true rfl) ?_
  refine w_rowA (i := 0) hρ hb hi5 hn hnm hR hN (hG.2.nmi hi5) hc hK (fun f' φ' h1 h2 h3 => bad f' φ' (by unfold laneR; rw [h1, thn_f rfl]) h2 h3) ?_
  intro f1 φ1 hlt h1 hp1 hK1 hnm1 hz1 hk1
  have hR1 := hk1.rws hb hi5 hR
  refine w_row82 (i := 0) (φ0 := φ) (v3 := .null) (f0 := f1) (R := nmsF 0 n 2 0 φ1) hρ hb hi5 hlt hR1 (fun f' φ' h2 h3 h4 => bad f' φ' (by unfold laneR; rw [h1, thn_tt, h2, thn_f rfl]) h3 (hk1.tr h4)) ?_ 2 0 (by decide) f1 φ1 hp1 hK1 RowKf.rf rfl (fun j' hj' => by omega) (fun _ _ _ => rfl) rfl
  intro f4 φ4 h4 hp4 hK4 hk4 hnm4 hcl4 hz4
  have nu : NUt 0 = 2 := rfl
  have eR : laneR n φ = lnE (u2 (mkF 9 111 n (mkF 8 110 n φ4)) 104 20 ((n : Int) + 1)) := by unfold laneR; rw [h1, thn_tt, h4, thn_tt]
  have hk14 := hk1.tr hk4
  have c0 : colR 0 0 = 108 := rfl
  have c1 : colR 0 1 = 109 := rfl
  have nm0 : nmR 0 = 107 := rfl
  have o4 : ∀ a k, ¬ (a = 104 ∧ (k = 4 ∨ k = 5 ∨ 7 ≤ k ∧ k ≤ 11)) → ¬ (107 ≤ a ∧ a ≤ 109 ∧ k = 6 + n) → φ4 a k = φ a k := fun a k z1 z2 => by
    have e1 : φ4 = (nmsF 0 n 2 0 φ1).2 := by rw [h4]
    have e2 : φ1 = (hdF 0 n φ).2 := by rw [h1]
    rw [e1, nmsF_o z1 _ _ _ (fun j' h5 h6 z => by rcases (show j' = 0 ∨ j' = 1 by omega) with e | e <;> subst e <;> omega), e2, hdF_o hi5 z1 (by omega)]
  have n4 : φ4 107 (6 + n) = φ1 107 (6 + n) := by
    have e1 : φ4 = (nmsF 0 n 2 0 φ1).2 := by rw [h4]
    rw [e1, nmsF_o (by omega) _ _ _ (fun j' h5 h6 z => by rcases (show j' = 0 ∨ j' = 1 by omega) with e | e <;> subst e <;> omega)]
  have hzz : ∀ j, j < 4 → f1 (b + 4) (n * 4 + j) = 0 := fun j hj => hz1 j (by omega)
  have go : ∀ f5 : IT, KT4 f4 f5 → CUR f5 φ4 → V_X2_readRow (fun r ρ' f' g' => r = some (.int (iz (bz (laneR n φ).1))) ∧ ρ' = ρ ∧ LnP b (laneR n φ) f f' ∧ (∀ k, f' b k = f b k ∧ f' (b + 17) k = f (b + 17) k) ∧ g' = g) 173 [.ref 2, .ref b, .int (iz 0), .ref (b + 2), .null] [] ρ f5 g := by
    intro f5 k5 c5
    have hk5 : RowKf b 0 n f f5 := hk14.tr (RowKf.kt k5)
    have hR5 := hk5.rws hb hi5 hR
    have z2 : f5 (b + 4) (n * 4 + 2) = 0 := by rw [k5 _ _ (by omega)]; exact (hz4 2 (by omega) (by omega)).trans (hzz 2 (by omega))
    have z3 : f5 (b + 4) (n * 4 + 3) = 0 := by rw [k5 _ _ (by omega)]; exact (hz4 3 (by omega) (by omega)).trans (hzz 3 (by omega))
    have hmk := c_marks (g := g) hρ hb hR5 (by omega) c5 hK4 z2 z3
    have d0 : f5 (b + 4) (n * 4 + 0) = φ4 108 (6 + n) := by rw [k5 _ _ (by omega)]; exact hcl4 0 (by omega)
    have d1 : f5 (b + 4) (n * 4 + 1) = φ4 109 (6 + n) := by rw [k5 _ _ (by omega)]; exact hcl4 1 (by omega)
    have hM : ∀ a k, ¬ (a = 104 ∧ 7 ≤ k ∧ k ≤ 10) → ¬ (a = 110 ∧ k = 6 + n) → ¬ (a = 111 ∧ k = 6 + n) → mkF 9 111 n (mkF 8 110 n φ4) a k = φ4 a k := fun a k q1 q2 q3 => by rw [mkF_o q1 q3, mkF_o q1 q2]
    have m110 : mkF 9 111 n (mkF 8 110 n φ4) 110 (6 + n) = bz (keyB 8 φ4) := by rw [mkF_o (by omega) (by omega), mkF_s (by omega)]
    have m111 : mkF 9 111 n (mkF 8 110 n φ4) 111 (6 + n) = bz (keyB 9 (mkF 8 110 n φ4)) := mkF_s (by omega)
    have hKm : PK (mkF 9 111 n (mkF 8 110 n φ4)) := mkF_pk (by omega) (mkF_pk (by omega) hK4)
    have tail : ∀ f6 : IT, (∀ a k, ¬ (a = 4 ∧ 2 ≤ k) → ¬ (a = b + 4 ∧ (k = n * 4 + 2 ∨ k = n * 4 + 3)) → f6 a k = f5 a k) → f6 (b + 4) (n * 4 + 2) = bz (keyB 8 φ4) → f6 (b + 4) (n * 4 + 3) = bz (keyB 9 (mkF 8 110 n φ4)) → CUR f6 (mkF 9 111 n (mkF 8 110 n φ4)) → V_X2_readRow (fun r ρ' f' g' => r = some (.int (iz (bz (laneR n φ).1))) ∧ ρ' = ρ ∧ LnP b (laneR n φ) f f' ∧ (∀ k, f' b k = f b k ∧ f' (b + 17) k = f (b + 17) k) ∧ g' = g) 191 [.ref 2, .ref b, .int (iz ((0 : Nat) : Int)), .ref (b + 2 + 3 * 0), .null] [] ρ f6 g := by
      intro f6 k6 x2 x3 c6
      generalize mkF 9 111 n (mkF 8 110 n φ4) = ψ at *
      have hk6 : RowKf b 0 n f f6 := hk5.tr (fun a k q1 q2 q3 q4 => k6 a k q2 (by rw [w4] at q4; omega))
      obtain ⟨l1, l2, l3⟩ := hk6.ln hb hi5
      have c7 : CUR f6 (u2 ψ 104 20 ((n : Int) + 1)) := c6.cg (fun _ => rfl) (fun _ => rfl) (u2_row (by omega)) (fun k z1 z2 => u2_o (by omega))
      have hK7 : PK (u2 ψ 104 20 ((n : Int) + 1)) := hKm.up (by omega) (by omega) (by omega)
      have p7 := c7.pre (φ' := u2 ψ 104 20 ((n : Int) + 1)) hK7.1 rfl rfl rfl
      have P4 : ∀ a k, ¬ (a = 104 ∧ 7 ≤ k ∧ k ≤ 10) → ¬ (a = 104 ∧ k = 20) → tkF (u2 ψ 104 20 ((n : Int) + 1)) a k = ψ a k := fun a k z1 z2 => by rw [tkF_o z1, u2_o (by omega)]
      refine w_row191 (i := 0) hρ hb hi5 c7 hK7 (hk6.rws hb hi5 hR) (fun s => ?_) (fun s => ?_)
      · have e2 : laneR n φ = (true, tkF (u2 ψ 104 20 ((n : Int) + 1))) := by rw [eR]; unfold lnE; rw [if_pos s]
        have fo : ∀ a k, ¬ (a = b + 2 + 3 * 0 ∧ k = 4) → u2 f6 (b + 2 + 3 * 0) 4 ((n : Int) + 1) a k = f6 a k := fun a k z => u2_o z
        rw [e2]
        refine ⟨rfl, rfl, ⟨fun a k z1 z2 z3 z4 => (fo a k (by omega)).trans (l1 a k z1 z2 z3 z4), (fo 4 1 (by omega)).trans l2, (fo b 4 (by omega)).trans (l3 4).1, fun _ => ⟨p7.cg (fun k => fo 4 k (by omega)) (fun k => fo 1 k (by omega)) rfl (fun _ _ _ => rfl), ?_⟩, (fun q => by (cases q))⟩, fun k => ⟨(fo b k (by omega)).trans (l3 k).1, (fo (b + 17) k (by omega)).trans (l3 k).2⟩, rfl⟩
        refine CT_close (φ' := tkF (u2 ψ 104 20 ((n : Int) + 1))) (i := 0) hb hi5 hC hn (fun j hj hji => ?_) ?_ ?_ (fun a k z1 z2 z3 => ?_) (fun z => by omega) (fun a k z1 z2 z3 z4 z5 => ?_) u2_s ?_ (fun j hj => ?_)
        · rw [P4 _ _ (by omega) (by omega), hM _ _ (by omega) (by omega) (by omega)]; exact o4 _ _ (by omega) (by omega)
        · rw [tkF_o (by omega), u2_s]
        · rw [P4 _ _ (by omega) (by omega), hM _ _ (by omega) (by omega) (by omega)]; exact o4 _ _ (by omega) (by omega)
        · have hz : ¬ (107 ≤ a ∧ a ≤ 111 ∧ k = 6 + n) := fun q => z3 ⟨by unfold rwK; have e1 : nmR (0 + 1) = 112 := rfl; omega, by
            have hh : half a = 6 := by unfold half; rw [if_neg (by omega), if_pos (by omega)]
            rw [hh, if_neg (by omega)]; omega⟩
          rw [P4 _ _ (by omega) (by omega), hM _ _ (by omega) (by omega) (by omega)]; exact o4 _ _ (by omega) (by omega)
        · rw [fo a k z3]; exact hk6 a k (by omega) (by omega) z4 z5
        · rw [fo _ _ (by omega), k6 _ _ (by omega) (by omega), k5 _ _ (by omega), hnm4, hnm1]
          show φ1 107 (6 + n) = _
          rw [P4 _ _ (by omega) (by omega), hM _ _ (by omega) (by omega) (by omega)]
          exact n4.symm
        · rw [fo _ _ (by omega)]
          rcases (show j = 0 ∨ j = 1 ∨ j = 2 ∨ j = 3 by omega) with e | e | e | e <;> subst e
          · show f6 (b + 4) (n * 4 + 0) = tkF (u2 ψ 104 20 ((n : Int) + 1)) 108 (6 + n)
            rw [k6 _ _ (by omega) (by omega), d0, P4 _ _ (by omega) (by omega), hM _ _ (by omega) (by omega) (by omega)]
          · show f6 (b + 4) (n * 4 + 1) = tkF (u2 ψ 104 20 ((n : Int) + 1)) 109 (6 + n)
            rw [k6 _ _ (by omega) (by omega), d1, P4 _ _ (by omega) (by omega), hM _ _ (by omega) (by omega) (by omega)]
          · show f6 (b + 4) (n * 4 + 2) = tkF (u2 ψ 104 20 ((n : Int) + 1)) 110 (6 + n)
            rw [x2, P4 _ _ (by omega) (by omega), m110]
          · show f6 (b + 4) (n * 4 + 3) = tkF (u2 ψ 104 20 ((n : Int) + 1)) 111 (6 + n)
            rw [x3, P4 _ _ (by omega) (by omega), m111]
      · have e2 : laneR n φ = (false, wrg 1 (u2 ψ 104 20 ((n : Int) + 1))) := by rw [eR]; unfold lnE; rw [if_neg (by rw [s]; exact Bool.false_ne_true)]
        exact bad _ _ e2 (rfF_fl c7.2.1.1) (hk6.tr RowKf.rf2)
    refine V_al0n dX2_readRow_173 ?_
    refine V_al3n dX2_readRow_174 ?_
    refine V_callV (as := [_]) ml_X2_144 im_X2_readMarks se_X2_readMarks kk2 (by decide) (by decide) dX2_readRow_175 rfl rfl (by decide) (by decide) (Nat.le_of_ble_eq_true rfl) (by decide) (by decide) rfl (hmk) ?_
    rintro r175 ρ175 f175 g175 ⟨rfl, s175_0, y1, y2, y3, y4, s175_1⟩
    obtain rfl := s175_0.symm
    obtain rfl := s175_1.symm
    refine V_il2n dX2_readRow_178 ?_
    refine V_iconst dX2_readRow_179 ?_
    refine V_icmp_ne (tgt := 191) dX2_readRow_180 rfl (by unfold ri; omega) (by unfold ri; omega) (fun b180 => ?_) (fun b180 => ?_)
    · exact tail f175 y1 y2 y3 y4
    · exfalso; omega
  refine V_il2n dX2_readRow_147 ?_
  refine V_iconst dX2_readRow_148 ?_
  refine V_icmp_ne (tgt := 162) dX2_readRow_149 rfl (by unfold ri; omega) (by unfold ri; omega) (fun b149 => ?_) (fun b149 => ?_)
  · refine V_al0n dX2_readRow_162 ?_
    refine V_getR kk2 (by decide) fl_X2_42 (fx_2_0 hρ) dX2_readRow_163 ?_
    refine V_callV (as := []) ml_X2_55 im_X6_next se_X6_next kk4 (by decide) (by decide) dX2_readRow_166 rfl rfl (by decide) (by decide) (Nat.le_of_ble_eq_true rfl) (by decide) (by decide) rfl (c_nextP hρ hp4) ?_
    rintro r166 ρ166 f166 g166 ⟨rfl, s166_0, k166, c166, s166_1⟩
    obtain rfl := s166_0.symm
    obtain rfl := s166_1.symm
    refine V_il2n dX2_readRow_169 ?_
    refine V_if_ne (tgt := 178) dX2_readRow_170 rfl (by unfold ri; omega) (fun b170 => ?_) (fun b170 => ?_)
    · exfalso; omega
    · exact go f166 k166 c166
  · exfalso; omega
end CLANE

