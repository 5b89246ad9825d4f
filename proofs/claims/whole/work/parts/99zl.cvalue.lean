section CVALUE
variable {ρ : RT} {g : JT} {b : Nat}
/-- what a value or a sign read leaves -/
def LVP (b : Nat) (R : Bool × IT) (f f' : IT) : Prop := SFr b f f' ∧ (R.1 = true → PRE f' R.2 ∧ LSR b f' R.2) ∧ (R.1 = false → FLm f' R.2)
theorem LVP.no {f f' φ' : IT} (h1 : SFr b f f') (h2 : FLm f' φ') : LVP b (false, φ') f f' := ⟨h1, (fun q => by (cases q)), fun _ => h2⟩
theorem LVP.yes {f f' φ' : IT} (h1 : SFr b f f') (h2 : PRE f' φ') (h3 : LSR b f' φ') : LVP b (true, φ') f f' := ⟨h1, fun _ => ⟨h2, h3⟩, (fun q => by (cases q))⟩
theorem lk_d {e : Int} (h : 0 ≤ e ∧ e ≤ 20) (h0 : e ≠ 0) (h1 : e ≠ 1) (h2 : e ≠ 2) (h3 : e ≠ 15) : Op.lookupswitch.offset [(0, 41), (1, 41), (2, 92), (15, 126)] 163 e = 163 := by
  rcases (show e = 3 ∨ e = 4 ∨ e = 5 ∨ e = 6 ∨ e = 7 ∨ e = 8 ∨ e = 9 ∨ e = 10 ∨ e = 11 ∨ e = 12 ∨ e = 13 ∨ e = 14 ∨ e = 16 ∨ e = 17 ∨ e = 18 ∨ e = 19 ∨ e = 20 by omega) with rfl | rfl | rfl | rfl | rfl | rfl | rfl | rfl | rfl | rfl | rfl | rfl | rfl | rfl | rfl | rfl | rfl <;> rfl
theorem SRw.push {f f' φ φ' : IT} {w : Nat} {k : Int} (h : SRw f φ) (hw : φ 104 58 = (w : Int)) (e1 : f' 2 2 = (w : Int) + 1) (e2 : f' 3 w = cwt k) (e3 : ∀ i, i < w → f' 3 i = f 3 i) (r1 : φ' 104 58 = (w : Int) + 1) (r2 : φ' 133 w = k) (r3 : ∀ i, i < w → φ' 133 i = φ 133 i) : SRw f' φ' := by
  refine ⟨by rw [e1, r1], fun i hi => ?_⟩
  by_cases e : i = w
  · rw [e, e2, r2]
  · rw [e3 i (by omega), r3 i (by omega)]; exact h.2 i (by omega)
theorem SRw.cg {f f' φ φ' : IT} (h : SRw f φ) (e1 : f' 2 2 = f 2 2) (e2 : ∀ i, f' 3 i = f 3 i) (r1 : φ' 104 58 = φ 104 58) (r2 : φ' 133 = φ 133) : SRw f' φ' := ⟨by rw [e1, r1]; exact h.1, fun i hi => by rw [e2, r2]; exact h.2 i (by rw [← r1]; exact hi)⟩
theorem grw_eff {n : Nat} {k x y : Int} {ψ : IT} (e : ψ 104 25 = (n : Int)) : grwF k x y ψ 104 25 = (n : Int) + 1 ∧ grwF k x y ψ 130 (64 + n) = k ∧ grwF k x y ψ 131 (64 + n) = x ∧ (∀ i, i ≠ 64 + n → grwF k x y ψ 130 i = ψ 130 i) ∧ (∀ i, i ≠ 64 + n → grwF k x y ψ 131 i = ψ 131 i) := by
  unfold grwF
  rw [e, Int.toNat_natCast]
  refine ⟨u2_s, ?_, ?_, fun i hi => ?_, fun i hi => ?_⟩
  · rw [u2_o (by omega), u2_o (by omega), u2_o (by omega), u2_o (by omega), u2_o (by omega), u2_s]
  · rw [u2_o (by omega), u2_o (by omega), u2_o (by omega), u2_o (by omega), u2_s]
  · rw [u2_o (by omega), u2_o (by omega), u2_o (by omega), u2_o (by omega), u2_o (by omega), u2_o (by omega)]
  · rw [u2_o (by omega), u2_o (by omega), u2_o (by omega), u2_o (by omega), u2_o (by omega), u2_o (by omega)]
theorem grwF_o {k x y : Int} {ψ : IT} {a j : Nat} (h1 : ¬ (a = 104 ∧ (j = 25 ∨ j = 59))) (h2 : ¬ (130 ≤ a ∧ a ≤ 132)) (h3 : a ≠ 134) : grwF k x y ψ a j = ψ a j := by
  unfold grwF
  rw [u2_o (by omega), u2_o (by omega), u2_o (by omega), u2_o (by omega), u2_o (by omega), u2_o (by omega)]
theorem LSR.rng {f φ : IT} (hS : LSR b f φ) {lo : Nat} {h c : Int} (H : SJ lo h c φ) (hc : 0 ≤ c) : (0 ≤ f 2 2 ∧ f 2 2 ≤ 72) ∧ (0 ≤ f 2 3 ∧ f 2 3 ≤ 8) ∧ (0 ≤ f (b + 17) 8 ∧ f (b + 17) 8 ≤ 64) := by
  have r := H.rng hc
  have r2 := H.2.1
  have r3 := H.2.2.1
  rw [hS.2.1.1, hS.2.2.1, hS.2.2.2.2.2]
  omega
theorem w_rv48 {f φ : IT} (hρ : Fx ρ) (hb : b = 5 ∨ b = 30) (hc : CUR f φ) (hK : PK φ) {lo : Nat} (H : SJ lo 0 0 φ) (hS : LSR b f φ) {k v : Int} (h43 : f 4 3 = k) (h45 : f 4 5 = v) (hk : k = 0 ∨ k = 1) (rv : 0 ≤ v ∧ v ≤ 1000000) (hv : k = 1 → v ≤ 7) {R : Bool × IT} (hR1 : 9999 < v → R = (false, wrg 2 φ)) (hR2 : v ≤ 9999 → R = thn (ctdF φ) fun f1 => (true, tkF (u2 (grwF k v 0 f1) 104 62 0))) :
    V_X2_readValue (fun r ρ' f' g' => r = some (.int (iz (bz R.1))) ∧ ρ' = ρ ∧ LVP b R f f' ∧ g' = g) 48 [.ref 2, .ref (b + 17)] [] ρ f g := by
  obtain ⟨rg1, rg2, rg3⟩ := hS.rng H (by omega)
  by_cases c : 9999 < v
  · rw [hR1 c]
    refine V_al0n dX2_readValue_48 ?_
    refine V_getR kk2 (by decide) fl_X2_42 (fx_2_0 hρ) dX2_readValue_49 ?_
    refine V_getI kk4 (by decide) fl_X2_115 h45 dX2_readValue_52 ?_
    refine V_sipush dX2_readValue_55 rfl ?_
    refine V_icmp_gt (tgt := 68) dX2_readValue_58 rfl (by unfold ri; omega) (by unfold ri; omega) (fun b58 => ?_) (fun b58 => ?_)
    · refine V_al0n dX2_readValue_68 ?_
      refine V_iconst dX2_readValue_69 ?_
      refine V_callV (as := [_]) ml_X2_68 im_X2_refuse se_X2_refuse kk2 (by decide) (by decide) dX2_readValue_70 rfl rfl (by decide) (by decide) (Nat.le_of_ble_eq_true rfl) (by decide) (by decide) rfl (c_refuse hρ) ?_
      refine pq4 ?_
      exact V_zreturn rfl (by first | exact Or.inl rfl | exact Or.inr rfl | (unfold bz; split <;> simp)) ⟨rfl, rfl, LVP.no SFr.rf.rff (rfF_fl hc.2.1.1), rfl⟩ dX2_readValue_73
    · exfalso; omega
  · have hR := hR2 (by omega)
    have hck := c_countKnot (ρ := ρ) (g := g) (f := f) hb rfl (by unfold ri; omega)
    have s8 := hS.2.2.2.2.2
    by_cases c64 : φ 104 61 = 64
    · have ect : ctdF φ = (false, wrg 2 φ) := by unfold ctdF; rw [if_pos c64]
      rw [ect, thn_f rfl] at hR
      rw [decide_eq_false (by omega), if_neg (by omega)] at hck
      rw [hR]
      refine V_al0n dX2_readValue_48 ?_
      refine V_getR kk2 (by decide) fl_X2_42 (fx_2_0 hρ) dX2_readValue_49 ?_
      refine V_getI kk4 (by decide) fl_X2_115 h45 dX2_readValue_52 ?_
      refine V_sipush dX2_readValue_55 rfl ?_
      refine V_icmp_gt (tgt := 68) dX2_readValue_58 rfl (by unfold ri; omega) (by unfold ri; omega) (fun b58 => ?_) (fun b58 => ?_)
      · exfalso; omega
      · refine V_al1n dX2_readValue_61 ?_
        refine V_callV (as := []) ml_X2_177 im_X1_countKnot se_X1_countKnot (kb_17 hb) (by decide) (kl_17 hb) dX2_readValue_62 rfl rfl (by decide) (by decide) (Nat.le_of_ble_eq_true rfl) (by decide) (by decide) rfl (hck) ?_
        refine pq4 ?_
        refine V_bf (tgt := 74) dX2_readValue_65 rfl (fun b65 => ?_) (fun b65 => ?_)
        · cases b65
        · refine V_al0n dX2_readValue_68 ?_
          refine V_iconst dX2_readValue_69 ?_
          refine V_callV (as := [_]) ml_X2_68 im_X2_refuse se_X2_refuse kk2 (by decide) (by decide) dX2_readValue_70 rfl rfl (by decide) (by decide) (Nat.le_of_ble_eq_true rfl) (by decide) (by decide) rfl (c_refuse hρ) ?_
          refine pq4 ?_
          exact V_zreturn rfl (by first | exact Or.inl rfl | exact Or.inr rfl | (unfold bz; split <;> simp)) ⟨rfl, rfl, LVP.no SFr.rf.rff (rfF_fl hc.2.1.1), rfl⟩ dX2_readValue_73
    · have ect : ctdF φ = (true, u2 φ 104 61 (φ 104 61 + 1)) := by unfold ctdF; rw [if_neg c64]
      have hj := H.ct (by rw [ect])
      have hj2 := hj.rng (by omega)
      rw [ect] at hj2
      simp only at hj2
      rw [u2_o (show ¬ ((104 : Nat) = 104 ∧ 25 = 61) by omega)] at hj2
      rw [ect, thn_tt] at hR
      rw [decide_eq_true (by omega), if_pos (by omega)] at hck
      obtain ⟨n, hn⟩ : ∃ n : Nat, φ 104 25 = (n : Int) := ⟨(φ 104 25).toNat, by omega⟩
      have f1n : (u2 f (b + 17) 8 (f (b + 17) 8 + 1)) (b + 17) 2 = (n : Int) := by rw [u2_o (by omega), hS.1.1]; exact hn
      have hadd := c_ladd (g := g) (f := u2 f (b + 17) 8 (f (b + 17) 8 + 1)) hρ hb (show n < 64 by omega) f1n (s := k) (v := v) (by unfold ri; omega) (by unfold ri; omega)
      have n1 : u2 φ 104 61 (φ 104 61 + 1) 104 25 = (n : Int) := by rw [u2_o (by omega)]; exact hn
      obtain ⟨a1, a2, a3, a4, a5⟩ := grw_eff (k := k) (x := v) (y := 0) n1
      have ao : ∀ a j, ¬ (a = 104 ∧ (j = 25 ∨ j = 59)) → ¬ (130 ≤ a ∧ a ≤ 132) → a ≠ 134 → grwF k v 0 (u2 φ 104 61 (φ 104 61 + 1)) a j = u2 φ 104 61 (φ 104 61 + 1) a j := fun a j z1 z2 z3 => grwF_o z1 z2 z3
      have sn1 : SRn b (u2 f (b + 17) 8 (f (b + 17) 8 + 1)) (u2 φ 104 61 (φ 104 61 + 1)) := hS.1.cg (u2_o (by omega)) (fun k => u2_o (by omega)) (fun k => u2_o (by omega)) (fun k => u2_o (by omega)) (u2_o (by omega)) (u2_row (by omega)) (u2_row (by omega))
      have sn2 := sn1.add (φ' := grwF k v 0 (u2 φ 104 61 (φ 104 61 + 1))) (k := k) (s := k) (v := v) n1 a1 (by omega) (by unfold swp; rw [if_neg (by omega), if_neg (by omega)]) a2 (fun _ => a3) (fun z => ⟨rv.1, by have := hv z; omega⟩) (fun i hi => a4 _ (by omega)) (fun i hi => a5 _ (by omega))
      have hpr := hc.pre (φ' := u2 (grwF k v 0 (u2 φ 104 61 (φ 104 61 + 1))) 104 62 0) hK.1 (funext fun j => by rw [u2_o (by omega), ao _ _ (by omega) (by omega) (by omega), u2_o (by omega)]) (by rw [u2_o (by omega), ao _ _ (by omega) (by omega) (by omega), u2_o (by omega)]) (by rw [u2_o (by omega), ao _ _ (by omega) (by omega) (by omega), u2_o (by omega)]) ⟨by rw [u2_o (by omega), ao _ _ (by omega) (by omega) (by omega), u2_o (by omega)], by rw [u2_o (by omega), ao _ _ (by omega) (by omega) (by omega), u2_o (by omega)]⟩
      rw [hR]
      generalize hχ : grwF k v 0 (u2 φ 104 61 (φ 104 61 + 1)) = χ at *
      have lo' : ∀ a j, ¬ (a = b + 17) → a ≠ b + 18 → a ≠ b + 19 → a ≠ b + 24 → ladF b n k v (u2 f (b + 17) 8 (f (b + 17) 8 + 1)) a j = f a j := fun a j z1 z2 z3 z4 => by rw [ladF_o (by omega) z2 z3 z4, u2_o (by omega)]
      have l8 : ladF b n k v (u2 f (b + 17) 8 (f (b + 17) 8 + 1)) (b + 17) 8 = f (b + 17) 8 + 1 := by rw [ladF_o (by omega) (by omega) (by omega) (by omega), u2_s]
      have hfr : SFr b f (ladF b n k v (u2 f (b + 17) 8 (f (b + 17) 8 + 1))) := SFr.lad (SFr.rf.up (Or.inr (Or.inr (Or.inl rfl))))
      generalize hfl : ladF b n k v (u2 f (b + 17) 8 (f (b + 17) 8 + 1)) = fl at *
      have fin : LSR b (u2 fl 2 4 0) (tkF (u2 χ 104 62 0)) := by
        have t : ∀ a j, ¬ (a = 104 ∧ 7 ≤ j ∧ j ≤ 10) → ¬ (a = 104 ∧ j = 62) → tkF (u2 χ 104 62 0) a j = χ a j := fun a j z1 z2 => by rw [tkF_o z1, u2_o z2]
        refine ⟨sn2.cg (u2_o (by omega)) (fun j => u2_o (by omega)) (fun j => u2_o (by omega)) (fun j => u2_o (by omega)) (t _ _ (by omega) (by omega)) (funext fun j => t _ _ (by omega) (by omega)) (funext fun j => t _ _ (by omega) (by omega)), hS.2.1.cg (by rw [u2_o (by omega), lo' _ _ (by omega) (by omega) (by omega) (by omega)]) (fun i => by rw [u2_o (by omega), lo' _ _ (by omega) (by omega) (by omega) (by omega)]) (by rw [t _ _ (by omega) (by omega), ao _ _ (by omega) (by omega) (by omega), u2_o (by omega)]) (funext fun j => by rw [t _ _ (by omega) (by omega), ao _ _ (by omega) (by omega) (by omega), u2_o (by omega)]), ?_, ?_, ?_, ?_⟩
        · rw [u2_o (by omega), lo' _ _ (by omega) (by omega) (by omega) (by omega), t _ _ (by omega) (by omega), ao _ _ (by omega) (by omega) (by omega), u2_o (by omega)]; exact hS.2.2.1
        · rw [u2_s, tkF_o (by omega), u2_s]
        · rw [u2_o (by omega), lo' _ _ (by omega) (by omega) (by omega) (by omega), t _ _ (by omega) (by omega), ao _ _ (by omega) (by omega) (by omega), u2_o (by omega)]; exact hS.2.2.2.2.1
        · rw [u2_o (by omega), l8, t _ _ (by omega) (by omega), ao _ _ (by omega) (by omega) (by omega), u2_s, s8]
      have fpr : PRE (u2 fl 2 4 0) (tkF (u2 χ 104 62 0)) := hpr.cg (fun j => by rw [u2_o (by omega), lo' _ _ (by omega) (by omega) (by omega) (by omega)]) (fun j => by rw [u2_o (by omega), lo' _ _ (by omega) (by omega) (by omega) (by omega)]) rfl (fun _ _ _ => rfl) ⟨by rw [u2_o (by omega), lo' _ _ (by omega) (by omega) (by omega) (by omega)], by rw [u2_o (by omega), lo' _ _ (by omega) (by omega) (by omega) (by omega)]⟩
      refine V_al0n dX2_readValue_48 ?_
      refine V_getR kk2 (by decide) fl_X2_42 (fx_2_0 hρ) dX2_readValue_49 ?_
      refine V_getI kk4 (by decide) fl_X2_115 h45 dX2_readValue_52 ?_
      refine V_sipush dX2_readValue_55 rfl ?_
      refine V_icmp_gt (tgt := 68) dX2_readValue_58 rfl (by unfold ri; omega) (by unfold ri; omega) (fun b58 => ?_) (fun b58 => ?_)
      · exfalso; omega
      · refine V_al1n dX2_readValue_61 ?_
        refine V_callV (as := []) ml_X2_177 im_X1_countKnot se_X1_countKnot (kb_17 hb) (by decide) (kl_17 hb) dX2_readValue_62 rfl rfl (by decide) (by decide) (Nat.le_of_ble_eq_true rfl) (by decide) (by decide) rfl (hck) ?_
        refine pq4 ?_
        refine V_bf (tgt := 74) dX2_readValue_65 rfl (fun b65 => ?_) (fun b65 => ?_)
        · refine V_al1n dX2_readValue_74 ?_
          refine V_al0n dX2_readValue_75 ?_
          refine V_getR kk2 (by decide) fl_X2_42 (fx_2_0 hρ) dX2_readValue_76 ?_
          refine V_getI kk4 (by decide) fl_X2_58 h43 dX2_readValue_79 ?_
          refine V_al0n dX2_readValue_82 ?_
          refine V_getR kk2 (by decide) fl_X2_42 (fx_2_0 hρ) dX2_readValue_83 ?_
          refine V_getI kk4 (by decide) fl_X2_115 h45 dX2_readValue_86 ?_
          refine V_callV (as := [_, _]) ml_X2_180 im_X1_add se_X1_add (kb_17 hb) (by decide) (kl_17 hb) dX2_readValue_89 rfl rfl (by decide) (by decide) (Nat.le_of_ble_eq_true rfl) (by decide) (by decide) rfl (hadd) ?_
          rintro r89 ρ89 f89 g89 ⟨rfl, s89_0, e89, s89_1⟩
          obtain rfl := s89_0.symm
          obtain rfl := s89_1.symm
          obtain rfl := e89.symm
          refine V_al0n dX2_readValue_92 ?_
          refine V_iconst dX2_readValue_93 ?_
          refine V_putZ kk2 (by decide) fl_X2_24 rfl (by first | exact Or.inl rfl | exact Or.inr rfl | (unfold bz; split <;> simp)) dX2_readValue_94 ?_
          refine V_iconst dX2_readValue_97 ?_
          exact V_zreturn rfl (by first | exact Or.inl rfl | exact Or.inr rfl | (unfold bz; split <;> simp)) ⟨rfl, rfl, LVP.yes (hfr.up (Or.inl rfl)) fpr fin, rfl⟩ dX2_readValue_98
        · cases b65
theorem c_readValue {f φ : IT} (hρ : Fx ρ) (hb : b = 5 ∨ b = 30) (hc : CUR f φ) (hK : PK φ) {lo : Nat} (H : SJ lo 0 0 φ) (hS : LSR b f φ) (h63 : φ 104 63 = 0 ∨ φ 104 63 = 1) :
    C_X2_readValue [.ref 2, .ref (b + 17)] ρ f g (fun r ρ' f' g' => r = some (.int (iz (bz (leafF φ).1))) ∧ ρ' = ρ ∧ LVP b (leafF φ) f f' ∧ g' = g) := by
  obtain ⟨rg1, rg2, rg3⟩ := hS.rng H (by omega)
  obtain ⟨q1, q2, -, -⟩ := hc.rr hK
  obtain ⟨v0, v1, v2, v3, v4, v5, v6⟩ := hc.2.2
  have hKK := hK
  obtain ⟨-, k8, k9, k1, -, k5⟩ := hKK
  have sA : sgnB 40 φ = true ↔ (φ 104 8 = 4 ∧ φ 104 9 = 40) := by unfold sgnB; exact decide_eq_true_iff
  have sB : keyB 20 φ = true ↔ (φ 104 8 = 1 ∧ φ 104 9 = 20) := by unfold keyB; exact decide_eq_true_iff
  have s58 := hS.2.1.1
  have s60 := hS.2.2.1
  have s63 := hS.2.2.2.2.1
  have s61 := hS.2.2.2.2.2
  refine Ct.ofV (by decide) rfl (Nat.le_of_ble_eq_true rfl) ?_
  by_cases hA : φ 104 8 = 4 ∧ φ 104 9 = 40
  · have h43 : f 4 3 = 15 := by have := v4 hA.1; rw [hA.2] at this; exact this.1
    by_cases c8 : φ 104 60 = 8
    · have eR : leafF φ = (false, wrg 2 φ) := by unfold leafF; rw [if_pos (sA.mpr hA), if_pos c8]
      rw [eR]
      refine V_al0n dX2_readValue_0 ?_
      refine V_getR kk2 (by decide) fl_X2_42 (fx_2_0 hρ) dX2_readValue_1 ?_
      refine V_getI kk4 (by decide) fl_X2_58 h43 dX2_readValue_4 ?_
      refine V_lookup (tgt := 133) dX2_readValue_7 (by decide) (by unfold ri; omega) rfl rfl ?_
      refine V_al0n dX2_readValue_133 ?_
      refine V_getI kk2 (by decide) fl_X2_21 rfl dX2_readValue_134 ?_
      refine V_bipush dX2_readValue_137 rfl ?_
      refine V_icmp_lt (tgt := 148) dX2_readValue_139 rfl (by unfold ri; omega) (by unfold ri; omega) (fun b139 => ?_) (fun b139 => ?_)
      · exfalso; omega
      · refine V_al0n dX2_readValue_142 ?_
        refine V_iconst dX2_readValue_143 ?_
        refine V_callV (as := [_]) ml_X2_68 im_X2_refuse se_X2_refuse kk2 (by decide) (by decide) dX2_readValue_144 rfl rfl (by decide) (by decide) (Nat.le_of_ble_eq_true rfl) (by decide) (by decide) rfl (c_refuse hρ) ?_
        refine pq4 ?_
        exact V_zreturn rfl (by first | exact Or.inl rfl | exact Or.inr rfl | (unfold bz; split <;> simp)) ⟨rfl, rfl, LVP.no SFr.rf.rff (rfF_fl hc.2.1.1), rfl⟩ dX2_readValue_147
    · have eR : leafF φ = (true, tkF (u2 (wtsF 0 (u2 φ 104 60 (φ 104 60 + 1))) 104 63 1)) := by unfold leafF; rw [if_pos (sA.mpr hA), if_neg c8]
      obtain ⟨w, hw⟩ : ∃ w : Nat, φ 104 58 = (w : Int) := ⟨(φ 104 58).toNat, by omega⟩
      have ew : wtsF 0 (u2 φ 104 60 (φ 104 60 + 1)) = u2 (u2 (u2 φ 104 60 (φ 104 60 + 1)) 133 w 0) 104 58 ((w : Int) + 1) := by unfold wtsF; rw [u2_o (show ¬ ((104 : Nat) = 104 ∧ 58 = 60) by omega), hw, Int.toNat_natCast]
      have hw72 : w < 72 := by
        have := (H.push0 (by omega)).rng (by omega)
        rw [ew, u2_s] at this
        omega
      rw [eR, ew]
      have h2 : u2 (u2 f 2 3 (f 2 3 + 1)) 2 5 1 2 2 = (w : Int) := by rw [u2_o (by omega), u2_o (by omega), s58]; exact hw
      have hlw := c_letWait (g := g) (f := u2 (u2 f 2 3 (f 2 3 + 1)) 2 5 1) hρ hw72 h2 (s := 15)
      have hpr := hc.pre (φ' := u2 (u2 (u2 (u2 φ 104 60 (φ 104 60 + 1)) 133 w 0) 104 58 ((w : Int) + 1)) 104 63 1) hK.1 (((u2_row (by omega)).trans (u2_row (by omega))).trans ((u2_row (by omega)).trans (u2_row (by omega)))) (by rw [u2_o (by omega), u2_o (by omega), u2_o (by omega), u2_o (by omega)]) (by rw [u2_o (by omega), u2_o (by omega), u2_o (by omega), u2_o (by omega)])
      have fin : LVP b (true, tkF (u2 (u2 (u2 (u2 φ 104 60 (φ 104 60 + 1)) 133 w 0) 104 58 ((w : Int) + 1)) 104 63 1)) f (u2 (u2 (u2 (u2 f 2 3 (f 2 3 + 1)) 2 5 1) 3 w 15) 2 2 ((w : Int) + 1)) := by
        have fo : ∀ a j, ¬ (a = 2 ∧ (j = 2 ∨ j = 3 ∨ j = 5)) → ¬ (a = 3 ∧ j = w) → (u2 (u2 (u2 (u2 f 2 3 (f 2 3 + 1)) 2 5 1) 3 w 15) 2 2 ((w : Int) + 1)) a j = f a j := fun a j z1 z2 => by rw [u2_o (by omega), u2_o (by omega), u2_o (by omega), u2_o (by omega)]
        have t : ∀ a j, ¬ (a = 104 ∧ (7 ≤ j ∧ j ≤ 10 ∨ j = 58 ∨ j = 60 ∨ j = 63)) → ¬ (a = 133 ∧ j = w) → tkF (u2 (u2 (u2 (u2 φ 104 60 (φ 104 60 + 1)) 133 w 0) 104 58 ((w : Int) + 1)) 104 63 1) a j = φ a j := fun a j z1 z2 => by rw [tkF_o (by omega), u2_o (by omega), u2_o (by omega), u2_o (by omega), u2_o (by omega)]
        refine LVP.yes ((((SFr.rf.up (Or.inl rfl)).up (Or.inl rfl)).up (Or.inr (Or.inl rfl))).up (Or.inl rfl)) (hpr.cg (fun j => fo _ _ (by omega) (by omega)) (fun j => fo _ _ (by omega) (by omega)) rfl (fun _ _ _ => rfl)) ⟨hS.1.cg (fo _ _ (by omega) (by omega)) (fun j => fo _ _ (by omega) (by omega)) (fun j => fo _ _ (by omega) (by omega)) (fun j => fo _ _ (by omega) (by omega)) (t _ _ (by omega) (by omega)) (funext fun j => t _ _ (by omega) (by omega)) (funext fun j => t _ _ (by omega) (by omega)), hS.2.1.push (w := w) (k := 0) hw u2_s (by rw [u2_o (by omega), u2_s]; rfl) (fun i hi => fo _ _ (by omega) (by omega)) (by rw [tkF_o (by omega), u2_o (by omega), u2_s]) (by rw [tkF_o (by omega), u2_o (by omega), u2_o (by omega), u2_s]) (fun i hi => t _ _ (by omega) (by omega)), ?_, ?_, ?_, ?_⟩
        · rw [u2_o (by omega), u2_o (by omega), u2_o (by omega), u2_s, tkF_o (by omega), u2_o (by omega), u2_o (by omega), u2_o (by omega), u2_s, s60]
        · rw [fo _ _ (by omega) (by omega), t _ _ (by omega) (by omega)]; exact hS.2.2.2.1
        · rw [u2_o (by omega), u2_o (by omega), u2_s, tkF_o (by omega), u2_s]
        · rw [fo _ _ (by omega) (by omega), t _ _ (by omega) (by omega)]; exact s61
      refine V_al0n dX2_readValue_0 ?_
      refine V_getR kk2 (by decide) fl_X2_42 (fx_2_0 hρ) dX2_readValue_1 ?_
      refine V_getI kk4 (by decide) fl_X2_58 h43 dX2_readValue_4 ?_
      refine V_lookup (tgt := 133) dX2_readValue_7 (by decide) (by unfold ri; omega) rfl rfl ?_
      refine V_al0n dX2_readValue_133 ?_
      refine V_getI kk2 (by decide) fl_X2_21 rfl dX2_readValue_134 ?_
      refine V_bipush dX2_readValue_137 rfl ?_
      refine V_icmp_lt (tgt := 148) dX2_readValue_139 rfl (by unfold ri; omega) (by unfold ri; omega) (fun b139 => ?_) (fun b139 => ?_)
      · refine V_al0n dX2_readValue_148 ?_
        refine V_dup dX2_readValue_149 rfl ?_
        refine V_getI kk2 (by decide) fl_X2_21 rfl dX2_readValue_150 ?_
        refine V_iconst dX2_readValue_153 ?_
        refine V_iadd dX2_readValue_154 ?_
        refine V_putI kk2 (by decide) fl_X2_21 rfl dX2_readValue_155 ?_
        refine V_al0n dX2_readValue_158 ?_
        refine V_iconst dX2_readValue_159 ?_
        refine V_putZ kk2 (by decide) fl_X2_28 rfl (by first | exact Or.inl rfl | exact Or.inr rfl | (unfold bz; split <;> simp)) dX2_readValue_160 ?_
        refine V_al0n dX2_readValue_163 ?_
        refine V_bipush dX2_readValue_164 rfl ?_
        refine V_callV (as := [_]) ml_X2_183 im_X2_letWait se_X2_letWait kk2 (by decide) (by decide) dX2_readValue_166 rfl rfl (by decide) (by decide) (Nat.le_of_ble_eq_true rfl) (by decide) (by decide) rfl (hlw) ?_
        refine pq4 ?_
        exact V_zreturn rfl (by first | exact Or.inl rfl | exact Or.inr rfl | (unfold bz; split <;> simp)) ⟨rfl, rfl, fin, rfl⟩ dX2_readValue_169
      · exfalso; omega
  · by_cases hB : φ 104 8 = 1 ∧ φ 104 9 = 20
    · have h43 : f 4 3 = 2 := by have := v1 hB.1; rw [hB.2] at this; exact this.1
      rcases h63 with e63 | e63
      · have eR : leafF φ = (false, wrg 1 φ) := by unfold leafF; rw [if_neg (fun z => hA (sA.mp z)), if_neg (by omega), if_pos ⟨by unfold nmtV; rw [if_neg (by omega)]; omega, by omega⟩]
        rw [eR]
        refine V_al0n dX2_readValue_0 ?_
        refine V_getR kk2 (by decide) fl_X2_42 (fx_2_0 hρ) dX2_readValue_1 ?_
        refine V_getI kk4 (by decide) fl_X2_58 h43 dX2_readValue_4 ?_
        refine V_lookup (tgt := 99) dX2_readValue_7 (by decide) (by unfold ri; omega) rfl rfl ?_
        refine V_al0n dX2_readValue_99 ?_
        refine V_getZ kk2 (by decide) fl_X2_28 rfl dX2_readValue_100 ?_
        refine V_if_ne (tgt := 112) dX2_readValue_103 rfl (by unfold ri; omega) (fun b103 => ?_) (fun b103 => ?_)
        · exfalso; omega
        · refine V_al0n dX2_readValue_106 ?_
          refine V_iconst dX2_readValue_107 ?_
          refine V_callV (as := [_]) ml_X2_68 im_X2_refuse se_X2_refuse kk2 (by decide) (by decide) dX2_readValue_108 rfl rfl (by decide) (by decide) (Nat.le_of_ble_eq_true rfl) (by decide) (by decide) rfl (c_refuse hρ) ?_
          refine pq4 ?_
          exact V_zreturn rfl (by first | exact Or.inl rfl | exact Or.inr rfl | (unfold bz; split <;> simp)) ⟨rfl, rfl, LVP.no SFr.rf.rff (rfF_fl hc.2.1.1), rfl⟩ dX2_readValue_111
      · have eR0 : leafF φ = thn (ctdF φ) fun f1 => (true, tkF (wtsF 2 f1)) := by unfold leafF; rw [if_neg (fun z => hA (sA.mp z)), if_pos ⟨sB.mpr hB, e63⟩]
        have hck := c_countKnot (ρ := ρ) (g := g) (f := f) hb rfl (by unfold ri; omega)
        by_cases c64 : φ 104 61 = 64
        · have ect : ctdF φ = (false, wrg 2 φ) := by unfold ctdF; rw [if_pos c64]
          rw [decide_eq_false (by omega), if_neg (by omega)] at hck
          rw [eR0, ect, thn_f rfl]
          refine V_al0n dX2_readValue_0 ?_
          refine V_getR kk2 (by decide) fl_X2_42 (fx_2_0 hρ) dX2_readValue_1 ?_
          refine V_getI kk4 (by decide) fl_X2_58 h43 dX2_readValue_4 ?_
          refine V_lookup (tgt := 99) dX2_readValue_7 (by decide) (by unfold ri; omega) rfl rfl ?_
          refine V_al0n dX2_readValue_99 ?_
          refine V_getZ kk2 (by decide) fl_X2_28 rfl dX2_readValue_100 ?_
          refine V_if_ne (tgt := 112) dX2_readValue_103 rfl (by unfold ri; omega) (fun b103 => ?_) (fun b103 => ?_)
          · refine V_al1n dX2_readValue_112 ?_
            refine V_callV (as := []) ml_X2_177 im_X1_countKnot se_X1_countKnot (kb_17 hb) (by decide) (kl_17 hb) dX2_readValue_113 rfl rfl (by decide) (by decide) (Nat.le_of_ble_eq_true rfl) (by decide) (by decide) rfl (hck) ?_
            refine pq4 ?_
            refine V_bt (tgt := 127) dX2_readValue_116 rfl (fun b116 => ?_) (fun b116 => ?_)
            · refine V_al0n dX2_readValue_127 ?_
              refine V_iconst dX2_readValue_128 ?_
              refine V_callV (as := [_]) ml_X2_68 im_X2_refuse se_X2_refuse kk2 (by decide) (by decide) dX2_readValue_129 rfl rfl (by decide) (by decide) (Nat.le_of_ble_eq_true rfl) (by decide) (by decide) rfl (c_refuse hρ) ?_
              refine pq4 ?_
              exact V_zreturn rfl (by first | exact Or.inl rfl | exact Or.inr rfl | (unfold bz; split <;> simp)) ⟨rfl, rfl, LVP.no SFr.rf.rff (rfF_fl hc.2.1.1), rfl⟩ dX2_readValue_132
            · cases b116
          · exfalso; omega
        · have ect : ctdF φ = (true, u2 φ 104 61 (φ 104 61 + 1)) := by unfold ctdF; rw [if_neg c64]
          have hj := H.ct (by rw [ect])
          rw [ect] at hj
          have hj3 := hj.pushN.rng (by omega)
          rw [decide_eq_true (by omega), if_pos (by omega)] at hck
          obtain ⟨w, hw⟩ : ∃ w : Nat, φ 104 58 = (w : Int) := ⟨(φ 104 58).toNat, by omega⟩
          have ew : wtsF 2 (u2 φ 104 61 (φ 104 61 + 1)) = u2 (u2 (u2 φ 104 61 (φ 104 61 + 1)) 133 w 2) 104 58 ((w : Int) + 1) := by unfold wtsF; rw [u2_o (show ¬ ((104 : Nat) = 104 ∧ 58 = 61) by omega), hw, Int.toNat_natCast]
          have hw72 : w < 72 := by
            simp only at hj3
            rw [ew, u2_s] at hj3
            omega
          rw [eR0, ect, thn_tt, ew]
          have h2 : u2 f (b + 17) 8 (f (b + 17) 8 + 1) 2 2 = (w : Int) := by rw [u2_o (by omega), s58]; exact hw
          have hlw := c_letWait (g := g) (f := u2 f (b + 17) 8 (f (b + 17) 8 + 1)) hρ hw72 h2 (s := 2)
          have hpr := hc.pre (φ' := u2 (u2 (u2 φ 104 61 (φ 104 61 + 1)) 133 w 2) 104 58 ((w : Int) + 1)) hK.1 ((u2_row (by omega)).trans ((u2_row (by omega)).trans (u2_row (by omega)))) (by rw [u2_o (by omega), u2_o (by omega), u2_o (by omega)]) (by rw [u2_o (by omega), u2_o (by omega), u2_o (by omega)])
          have fin : LVP b (true, tkF (u2 (u2 (u2 φ 104 61 (φ 104 61 + 1)) 133 w 2) 104 58 ((w : Int) + 1))) f (u2 (u2 (u2 f (b + 17) 8 (f (b + 17) 8 + 1)) 3 w 2) 2 2 ((w : Int) + 1)) := by
            have fo : ∀ a j, ¬ (a = 2 ∧ j = 2) → ¬ (a = 3 ∧ j = w) → ¬ (a = b + 17 ∧ j = 8) → (u2 (u2 (u2 f (b + 17) 8 (f (b + 17) 8 + 1)) 3 w 2) 2 2 ((w : Int) + 1)) a j = f a j := fun a j z1 z2 z3 => by rw [u2_o (by omega), u2_o (by omega), u2_o (by omega)]
            have t : ∀ a j, ¬ (a = 104 ∧ (7 ≤ j ∧ j ≤ 10 ∨ j = 58 ∨ j = 61)) → ¬ (a = 133 ∧ j = w) → tkF (u2 (u2 (u2 φ 104 61 (φ 104 61 + 1)) 133 w 2) 104 58 ((w : Int) + 1)) a j = φ a j := fun a j z1 z2 => by rw [tkF_o (by omega), u2_o (by omega), u2_o (by omega), u2_o (by omega)]
            refine LVP.yes (((SFr.rf.up (Or.inr (Or.inr (Or.inl rfl)))).up (Or.inr (Or.inl rfl))).up (Or.inl rfl)) (hpr.cg (fun j => fo _ _ (by omega) (by omega) (by omega)) (fun j => fo _ _ (by omega) (by omega) (by omega)) rfl (fun _ _ _ => rfl)) ⟨hS.1.cg (fo _ _ (by omega) (by omega) (by omega)) (fun j => fo _ _ (by omega) (by omega) (by omega)) (fun j => fo _ _ (by omega) (by omega) (by omega)) (fun j => fo _ _ (by omega) (by omega) (by omega)) (t _ _ (by omega) (by omega)) (funext fun j => t _ _ (by omega) (by omega)) (funext fun j => t _ _ (by omega) (by omega)), hS.2.1.push (w := w) (k := 2) hw u2_s (by rw [u2_o (by omega), u2_s]; rfl) (fun i hi => fo _ _ (by omega) (by omega) (by omega)) (by rw [tkF_o (by omega), u2_s]) (by rw [tkF_o (by omega), u2_o (by omega), u2_s]) (fun i hi => t _ _ (by omega) (by omega)), ?_, ?_, ?_, ?_⟩
            · rw [fo _ _ (by omega) (by omega) (by omega), t _ _ (by omega) (by omega)]; exact s60
            · rw [fo _ _ (by omega) (by omega) (by omega), t _ _ (by omega) (by omega)]; exact hS.2.2.2.1
            · rw [fo _ _ (by omega) (by omega) (by omega), t _ _ (by omega) (by omega)]; exact s63
            · rw [u2_o (by omega), u2_o (by omega), u2_s, tkF_o (by omega), u2_o (by omega), u2_o (by omega), u2_s, s61]
          refine V_al0n dX2_readValue_0 ?_
          refine V_getR kk2 (by decide) fl_X2_42 (fx_2_0 hρ) dX2_readValue_1 ?_
          refine V_getI kk4 (by decide) fl_X2_58 h43 dX2_readValue_4 ?_
          refine V_lookup (tgt := 99) dX2_readValue_7 (by decide) (by unfold ri; omega) rfl rfl ?_
          refine V_al0n dX2_readValue_99 ?_
          refine V_getZ kk2 (by decide) fl_X2_28 rfl dX2_readValue_100 ?_
          refine V_if_ne (tgt := 112) dX2_readValue_103 rfl (by unfold ri; omega) (fun b103 => ?_) (fun b103 => ?_)
          · refine V_al1n dX2_readValue_112 ?_
            refine V_callV (as := []) ml_X2_177 im_X1_countKnot se_X1_countKnot (kb_17 hb) (by decide) (kl_17 hb) dX2_readValue_113 rfl rfl (by decide) (by decide) (Nat.le_of_ble_eq_true rfl) (by decide) (by decide) rfl (hck) ?_
            refine pq4 ?_
            refine V_bt (tgt := 127) dX2_readValue_116 rfl (fun b116 => ?_) (fun b116 => ?_)
            · cases b116
            · refine V_al0n dX2_readValue_119 ?_
              refine V_iconst dX2_readValue_120 ?_
              refine V_callV (as := [_]) ml_X2_183 im_X2_letWait se_X2_letWait kk2 (by decide) (by decide) dX2_readValue_121 rfl rfl (by decide) (by decide) (Nat.le_of_ble_eq_true rfl) (by decide) (by decide) rfl (hlw) ?_
              refine pq4 ?_
              refine V_goto (tgt := 132) dX2_readValue_124 rfl ?_
              exact V_zreturn rfl (by first | exact Or.inl rfl | exact Or.inr rfl | (unfold bz; split <;> simp)) ⟨rfl, rfl, fin, rfl⟩ dX2_readValue_132
          · exfalso; omega
    · by_cases hC : φ 104 8 = 1 ∧ 21 ≤ φ 104 9
      · obtain ⟨x1, x2, x3⟩ := v1 hC.1
        have y1 := k1 hC.1
        have h43 : f 4 3 = 1 := by rw [x1]; unfold ckK; rw [if_pos hC.2]
        have h45 := x3 hC.2
        have nm : nmtV φ = φ 104 9 - 21 := by unfold nmtV; rw [if_pos hC]
        have eR : leafF φ = thn (ctdF φ) fun f1 => (true, tkF (u2 (grwF 1 (φ 104 9 - 21) 0 f1) 104 62 0)) := by
          unfold leafF
          rw [if_neg (fun z => hA (sA.mp z)), if_neg (fun z => hB (sB.mp z.1)), nm, if_neg (by omega), if_neg (by omega)]
          congr 1
          funext f1
          rw [if_neg (by omega), if_neg (by omega)]
        refine V_al0n dX2_readValue_0 ?_
        refine V_getR kk2 (by decide) fl_X2_42 (fx_2_0 hρ) dX2_readValue_1 ?_
        refine V_getI kk4 (by decide) fl_X2_58 h43 dX2_readValue_4 ?_
        refine V_lookup (tgt := 48) dX2_readValue_7 (by decide) (by unfold ri; omega) rfl rfl ?_
        exact w_rv48 hρ hb hc hK H hS h43 h45 (Or.inr rfl) (by omega) (fun _ => by omega) (fun z => by omega) (fun _ => eR)
      · by_cases hD : φ 104 8 = 3
        · obtain ⟨x1, x2, x3, x4⟩ := v3 hD
          have nm : nmtV φ = -1 := by unfold nmtV; rw [if_neg hC]
          have e1 : leafF φ = if 9999 < φ 104 9 then (false, wrg 2 φ) else thn (ctdF φ) fun f1 => (true, tkF (u2 (grwF 0 (f1 104 9) 0 f1) 104 62 0)) := by
            unfold leafF
            rw [if_neg (fun z => hA (sA.mp z)), if_neg (fun z => hB (sB.mp z.1)), nm, if_neg (by omega)]
            by_cases z : 9999 < φ 104 9
            · rw [if_pos ⟨by omega, z⟩, if_pos z]
            · rw [if_neg (fun q => z q.2), if_neg z]
              congr 1
          refine V_al0n dX2_readValue_0 ?_
          refine V_getR kk2 (by decide) fl_X2_42 (fx_2_0 hρ) dX2_readValue_1 ?_
          refine V_getI kk4 (by decide) fl_X2_58 x1 dX2_readValue_4 ?_
          refine V_lookup (tgt := 48) dX2_readValue_7 (by decide) (by unfold ri; omega) rfl rfl ?_
          refine w_rv48 hρ hb hc hK H hS x1 rfl (Or.inl rfl) x4 (fun z => by omega) (fun z => by rw [e1, if_pos (by omega)]) (fun z => ?_)
          have ev : f 4 5 = φ 104 9 := by omega
          rw [e1, if_neg (by omega), ev]
          cases ct : (ctdF φ).1 with
          | false => rw [thn_f ct, thn_f ct]
          | true =>
            have e9 : (ctdF φ).2 104 9 = φ 104 9 := by rw [ctdF_t ct, u2_o (by omega)]
            rw [thn_t ct, thn_t ct, e9]
        · have eR : leafF φ = (false, wrg 1 φ) := by unfold leafF; rw [if_neg (fun z => hA (sA.mp z)), if_neg (fun z => hB (sB.mp z.1)), if_pos ⟨by unfold nmtV; rw [if_neg hC]; omega, hD⟩]
          have hne : f 4 3 ≠ 0 ∧ f 4 3 ≠ 1 ∧ f 4 3 ≠ 2 ∧ f 4 3 ≠ 15 := by
            unfold ckK cwK at v1
            unfold csK at v4
            rcases (show φ 104 8 = 0 ∨ φ 104 8 = 1 ∨ φ 104 8 = 2 ∨ φ 104 8 = 4 ∨ φ 104 8 = 5 ∨ φ 104 8 = 6 by omega) with e | e | e | e | e | e
            · have := v0 e; omega
            · have hz := (v1 e).1; have := k1 e; (repeat' split at hz) <;> omega
            · have := v2 e; omega
            · have hz := (v4 e).1; (repeat' split at hz) <;> omega
            · have := v5 e; have := k5 e; omega
            · have := v6 e; omega
          rw [eR]
          refine V_al0n dX2_readValue_0 ?_
          refine V_getR kk2 (by decide) fl_X2_42 (fx_2_0 hρ) dX2_readValue_1 ?_
          refine V_getI kk4 (by decide) fl_X2_58 rfl dX2_readValue_4 ?_
          refine V_lookup (tgt := 170) dX2_readValue_7 (by decide) (by unfold ri; omega) (lk_d q1 hne.1 hne.2.1 hne.2.2.1 hne.2.2.2) rfl ?_
          refine V_al0n dX2_readValue_170 ?_
          refine V_iconst dX2_readValue_171 ?_
          refine V_callV (as := [_]) ml_X2_68 im_X2_refuse se_X2_refuse kk2 (by decide) (by decide) dX2_readValue_172 rfl rfl (by decide) (by decide) (Nat.le_of_ble_eq_true rfl) (by decide) (by decide) rfl (c_refuse hρ) ?_
          refine pq4 ?_
          exact V_zreturn rfl (by first | exact Or.inl rfl | exact Or.inr rfl | (unfold bz; split <;> simp)) ⟨rfl, rfl, LVP.no SFr.rf.rff (rfF_fl hc.2.1.1), rfl⟩ dX2_readValue_175
end CVALUE

