/-! a text being read: what the class's spare holds against the reference's second halves -/
def rdT (φ : IT) : TT := fun a k => if a = 104 then φ 104 (k + 8) else φ a (half a + k)
def nmR (i : Nat) : Nat := if i = 0 then 107 else if i = 1 then 112 else if i = 2 then 116 else if i = 3 then 120 else 124
def rwK (i a : Nat) : Prop := nmR i ≤ a ∧ a < nmR (i + 1) ∨ (i = 4 ∧ (a = 124 ∨ a = 125 ∨ a = 126))
theorem half_nm : ∀ i : Nat, i < 5 → half (nmR i) = mxK i := by decide
theorem nmR_r : ∀ i : Nat, i < 5 → 107 ≤ nmR i ∧ nmR i ≤ 124 := by decide
theorem rdT_n (φ : IT) : ∀ i : Nat, rdT φ 104 (12 + i) = φ 104 (20 + i) := fun i => by unfold rdT; rw [if_pos rfl]; congr 1; omega
theorem namT_r {φ : IT} : ∀ i : Nat, i < 5 → ∀ k, namT (rdT φ) i k = φ (nmR i) (mxK i + k) := fun i hi k => by
  rcases (show i = 0 ∨ i = 1 ∨ i = 2 ∨ i = 3 ∨ i = 4 by omega) with rfl | rfl | rfl | rfl | rfl <;> rfl
/-- how a row being read leaves the class: its name and cells, fault and tokens -/
def RowKf (b i n : Nat) (f f' : IT) : Prop := ∀ a k, a ≠ 2 → ¬ (a = 4 ∧ 2 ≤ k) → ¬ (a = b + 3 + 3 * i ∧ k = n) → ¬ (a = b + 4 + 3 * i ∧ n * wdK i ≤ k) → f' a k = f a k
theorem RowKf.rf {b i n : Nat} {f : IT} : RowKf b i n f f := fun _ _ _ _ _ _ => rfl
theorem RowKf.tr {b i n : Nat} {f f' f'' : IT} (h : RowKf b i n f f') (h' : RowKf b i n f' f'') : RowKf b i n f f'' := fun a k q1 q2 q3 q4 => (h' a k q1 q2 q3 q4).trans (h a k q1 q2 q3 q4)
theorem RowKf.kt {b i n : Nat} {f f' : IT} (h : KT4 f f') : RowKf b i n f f' := fun a k q1 q2 q3 q4 => h a k q2
theorem RowKf.rf2 {b i n : Nat} {f : IT} {w : Int} : RowKf b i n f (rfF w f) := fun a k q1 q2 q3 q4 => rfF_o q1
theorem RowKf.rws {b i n : Nat} {f f' : IT} (hb : b = 5 ∨ b = 30) (h : RowKf b i n f f') (hi : i < 5) {m : Nat} (hR : RWs b i m f) : RWs b i m f' := ⟨(h _ _ (by omega) (by omega) (by omega) (by omega)).trans hR.1, (h _ _ (by omega) (by omega) (by omega) (by omega)).trans hR.2.1, (h _ _ (by omega) (by omega) (by omega) (by omega)).trans hR.2.2⟩
theorem fnd_cg2 {r r' : Nat → Int} {o o' n : Nat} {x : Int} (h : ∀ j, j < n → r (o + j) = r' (o' + j)) : fnd r o n x = fnd r' o' n x := by
  by_cases c : ∃ j, j < n ∧ r (o + j) = x
  · obtain ⟨j, hj, e, hm⟩ : ∃ j, j < n ∧ r (o + j) = x ∧ ∀ i, i < j → r (o + i) ≠ x := by
      obtain ⟨j, h1, h2⟩ := c
      induction j using Nat.strongRecOn with
      | ind j ih =>
        by_cases z : ∃ i, i < j ∧ r (o + i) = x
        · obtain ⟨i, z1, z2⟩ := z
          exact ih i z1 (by omega) z2
        · exact ⟨j, h1, h2, fun i hi e => z ⟨i, hi, e⟩⟩
    rw [fnd_yes hj e hm, fnd_yes hj (by rw [← h j hj]; exact e) (fun i hi => by rw [← h i (by omega)]; exact hm i hi)]
  · rw [fnd_no (fun j hj e => c ⟨j, hj, e⟩), fnd_no (fun j hj e => c ⟨j, hj, by rw [h j hj]; exact e⟩)]
/-- the head of a row: room for it, and a new name -/
def hdF (i n : Nat) (φ : IT) : Bool × IT := if φ 104 (20 + i) = (mxK i : Int) then (false, wrg 2 φ) else nnF (nmR i) (mxK i) n (tkF φ)
def LOt (k : Nat) : Int := ([1, 0, 0, 1, 1, 1, 0, 0, 0, 0, 0, 0, 0, 0, 0] : List Int).getD k 0
def HIt (k : Nat) : Int := ([20, 9, 0, 60, 40, 30, 9, 99, 99, 0, 0, 0, 100, 100, 0] : List Int).getD k 0
def NUt (k : Nat) : Nat := ([2, 3, 3, 0, 2] : List Nat).getD k 0
theorem st_1 : ∀ k : Nat, k < 5 → (sT 1).getD k 0 = iz ((NUt k : Nat) : Int) := by decide
theorem st_2 : ∀ k : Nat, k < 15 → (sT 2).getD k 0 = iz (LOt k) := by decide
theorem st_3 : ∀ k : Nat, k < 15 → (sT 3).getD k 0 = iz (HIt k) := by decide
theorem NU_w : ∀ k : Nat, k < 5 → NUt k ≤ 3 ∧ NUt k ≤ wdK k := by decide
theorem LH_r : ∀ k : Nat, k < 15 → (0 ≤ LOt k ∧ LOt k ≤ 1) ∧ (0 ≤ HIt k ∧ HIt k ≤ 100) := by decide
def colR (i j : Nat) : Nat := (if i = 0 then 108 else if i = 1 then 113 else if i = 2 then 117 else 125) + j
theorem colR_r : ∀ i : Nat, i < 5 → ∀ j : Nat, j < NUt i → 107 ≤ colR i j ∧ colR i j ≤ 126 := by decide
/-- the numbers of a row from one on -/
def nmsF (i n : Nat) : Nat → Nat → IT → Bool × IT
  | 0, _, φ => (true, φ)
  | r + 1, j, φ => thn (numF (LOt (3 * i + j)) (HIt (3 * i + j)) φ) fun φ1 => nmsF i n r (j + 1) (u2 φ1 (colR i j) (mxK i + n) (φ1 104 11))
section CROWA
variable {ρ : RT} {g : JT} {b i n : Nat}
theorem w_rowA {f φ : IT} (hρ : Fx ρ) (hb : b = 5 ∨ b = 30) (hi : i < 5) (hn : φ 104 (20 + i) = (n : Int)) (hnm : n ≤ mxK i) (hR : RWs b i n f) (hN : ∀ k, k < n → f (b + 3 + 3 * i) k = φ (nmR i) (mxK i + k)) (hr : ∀ k, ri (φ (nmR i) k)) (hc : CUR f φ) (hK : PK φ) {Q : QT}
    (hF : ∀ (f' φ' : IT), hdF i n φ = (false, φ') → FLm f' φ' → RowKf b i n f f' → Q (some (.int (iz (bz false)))) ρ f' g)
    (hX : ∀ (f' φ1 : IT), n < mxK i → hdF i n φ = (true, φ1) → PRE f' φ1 → PK φ1 → f' (b + 3 + 3 * i) n = φ1 (nmR i) (mxK i + n) → (∀ j, j < wdK i → f' (b + 4 + 3 * i) (n * wdK i + j) = 0) → RowKf b i n f f' → V_X2_readRow Q 82 [.ref 2, .ref b, .int (iz (i : Int)), .ref (b + 2 + 3 * i), .int (iz 0)] [] ρ f' g) :
    V_X2_readRow Q 0 [.ref 2, .ref b, .int (iz (i : Int)), .null, .null] [] ρ f g := by
  have hkd := kdR hb hi
  have hfx := fxR hρ hb hi
  have hm := mw_r i hi
  have hn0 := nmR_r i hi
  by_cases c : n = mxK i
  · have eh : hdF i n φ = (false, wrg 2 φ) := by unfold hdF; rw [hn, if_pos (by omega)]
    refine V_al1n dX2_readRow_0 ?_
    refine V_getR (kb_0 hb) (kl_0 hb) fl_X2_99 (fb_0_0 hρ hb) dX2_readRow_1 ?_
    refine V_il2n dX2_readRow_4 ?_
    refine V_aald (k := i) (kb_1 hb) (by decide) (kl_1 hb) (by first | rfl | omega) (by omega) (by decide) hfx.1 dX2_readRow_5 ?_
    refine V_as3n dX2_readRow_6 (by decide) rfl ?_
    refine V_al3n dX2_readRow_7 ?_
    refine V_getI hkd.1 (kdlt hkd.1 (by decide)) fl_X2_103 hR.1 dX2_readRow_8 ?_
    refine V_al3n dX2_readRow_11 ?_
    refine V_getI hkd.1 (kdlt hkd.1 (by decide)) fl_X2_108 hR.2.1 dX2_readRow_12 ?_
    refine V_icmp_lt (tgt := 24) dX2_readRow_15 rfl (by unfold ri; omega) (by unfold ri; omega) (fun b15 => ?_) (fun b15 => ?_)
    · exfalso; omega
    · refine V_al0n dX2_readRow_18 ?_
      refine V_iconst dX2_readRow_19 ?_
      refine V_callV (as := [_]) ml_X2_68 im_X2_refuse se_X2_refuse kk2 (by decide) (by decide) dX2_readRow_20 rfl rfl (by decide) (by decide) (Nat.le_of_ble_eq_true rfl) (by decide) (by decide) rfl (c_refuse hρ) ?_
      refine pq4 ?_
      exact V_zreturn rfl (by first | exact Or.inl rfl | exact Or.inr rfl | (unfold bz; split <;> simp)) (hF _ _ eh (rfF_fl hc.2.1.1) RowKf.rf2) dX2_readRow_23
  · have hlt : n < mxK i := by omega
    have eh : hdF i n φ = nnF (nmR i) (mxK i) n (tkF φ) := by unfold hdF; rw [hn, if_neg (by omega)]
    have hK1 := hK.tk
    have hp := hc.pre hK.1 rfl rfl rfl
    have go : ∀ f1 : IT, KT4 f f1 → CUR f1 (tkF φ) → V_X2_readRow Q 31 [.ref 2, .ref b, .int (iz (i : Int)), .ref (b + 2 + 3 * i), .null] [] ρ f1 g := by
      intro f1 k1 hc1
      have hR1 : RWs b i n f1 := (RowKf.kt (n := n) k1).rws hb hi hR
      have hN1 : ∀ k, k < n → f1 (b + 3 + 3 * i) k = (tkF φ) (nmR i) (mxK i + k) := fun k hk => by rw [k1 _ _ (by omega), tkF_r (by omega)]; exact hN k hk
      have hr1 : ∀ k, ri (tkF φ (nmR i) k) := fun k => by rw [tkF_r (by omega)]; exact hr k
      generalize tkF φ = ψ at *
      have hKw := hK1.2
      obtain ⟨k8, k9, ku1, ku2, ku5⟩ := hKw
      obtain ⟨q1, q2, q3, q4⟩ := hc1.rr hK1
      have hv2 := hc1.2.2.2.2.1
      by_cases e2 : ψ 104 8 = 2
      · obtain ⟨v1, v2, v3⟩ := hv2 e2
        have hfe : fnd (f1 (b + 3 + 3 * i)) 0 n (ψ 104 9) = fnd (ψ (nmR i)) (mxK i) n (ψ 104 9) := fnd_cg2 (fun j hj => by rw [Nat.zero_add]; exact hN1 j hj)
        have hfr := fnd_rng (r := ψ (nmR i)) (o := mxK i) (n := n) (x := ψ 104 9)
        have hcf := c_prfind (g := g) hρ hb hi hR1 hnm (x := ψ 104 9) (by unfold ri; omega) (fun k hk => by rw [hN1 k hk]; exact hr1 _)
        rw [hfe] at hcf
        by_cases e3 : 0 ≤ fnd (ψ (nmR i)) (mxK i) n (ψ 104 9)
        · have en : hdF i n φ = (false, wrg 3 ψ) := by rw [eh]; unfold nnF; rw [if_neg (by omega), if_pos e3]
          refine V_al0n dX2_readRow_31 ?_
          refine V_getR kk2 (by decide) fl_X2_42 (fx_2_0 hρ) dX2_readRow_32 ?_
          refine V_callV (as := []) ml_X2_111 im_X6_isName se_X6_isName kk4 (by decide) (by decide) dX2_readRow_35 rfl rfl (by decide) (by decide) (Nat.le_of_ble_eq_true rfl) (by decide) (by decide) rfl (c_isName hc1 hK1) ?_
          refine pq4 ?_
          refine V_bf (tgt := 47) dX2_readRow_38 rfl (fun b38 => ?_) (fun b38 => ?_)
          · refine V_al3n dX2_readRow_47 ?_
            refine V_al0n dX2_readRow_48 ?_
            refine V_getR kk2 (by decide) fl_X2_42 (fx_2_0 hρ) dX2_readRow_49 ?_
            refine V_getI kk4 (by decide) fl_X2_115 v3 dX2_readRow_52 ?_
            refine V_callV (as := [_]) ml_X2_118 im_X3_find se_X3_find hkd.1 (by decide) (kdlt hkd.1 (by decide)) dX2_readRow_55 rfl rfl (by decide) (by decide) (Nat.le_of_ble_eq_true rfl) (by decide) (by decide) rfl (hcf) ?_
            refine pq4 ?_
            refine V_iconst dX2_readRow_58 ?_
            refine V_icmp_eq (tgt := 68) dX2_readRow_59 rfl (by unfold ri; omega) (by unfold ri; omega) (fun b59 => ?_) (fun b59 => ?_)
            · exfalso; omega
            · refine V_al0n dX2_readRow_62 ?_
              refine V_iconst dX2_readRow_63 ?_
              refine V_callV (as := [_]) ml_X2_68 im_X2_refuse se_X2_refuse kk2 (by decide) (by decide) dX2_readRow_64 rfl rfl (by decide) (by decide) (Nat.le_of_ble_eq_true rfl) (by decide) (by decide) rfl (c_refuse hρ) ?_
              refine pq4 ?_
              exact V_zreturn rfl (by first | exact Or.inl rfl | exact Or.inr rfl | (unfold bz; split <;> simp)) (hF _ _ en (rfF_fl hc1.2.1.1) ((RowKf.kt k1).tr RowKf.rf2)) dX2_readRow_67
          · simp [e2] at b38
        · have en : hdF i n φ = (true, tkF (u2 ψ (nmR i) (mxK i + n) (ψ 104 9))) := by rw [eh]; unfold nnF; rw [if_neg (by omega), if_neg e3]
          have hpr : PRE f1 (tkF (u2 ψ (nmR i) (mxK i + n) (ψ 104 9))) := hc1.pre hK1.1 (u2_row (by omega)) (u2_o (by omega)) (u2_o (by omega))
          have hop := c_ropen (g := g) hρ hb hi hR1 hlt (x := ψ 104 9)
          refine V_al0n dX2_readRow_31 ?_
          refine V_getR kk2 (by decide) fl_X2_42 (fx_2_0 hρ) dX2_readRow_32 ?_
          refine V_callV (as := []) ml_X2_111 im_X6_isName se_X6_isName kk4 (by decide) (by decide) dX2_readRow_35 rfl rfl (by decide) (by decide) (Nat.le_of_ble_eq_true rfl) (by decide) (by decide) rfl (c_isName hc1 hK1) ?_
          refine pq4 ?_
          refine V_bf (tgt := 47) dX2_readRow_38 rfl (fun b38 => ?_) (fun b38 => ?_)
          · refine V_al3n dX2_readRow_47 ?_
            refine V_al0n dX2_readRow_48 ?_
            refine V_getR kk2 (by decide) fl_X2_42 (fx_2_0 hρ) dX2_readRow_49 ?_
            refine V_getI kk4 (by decide) fl_X2_115 v3 dX2_readRow_52 ?_
            refine V_callV (as := [_]) ml_X2_118 im_X3_find se_X3_find hkd.1 (by decide) (kdlt hkd.1 (by decide)) dX2_readRow_55 rfl rfl (by decide) (by decide) (Nat.le_of_ble_eq_true rfl) (by decide) (by decide) rfl (hcf) ?_
            refine pq4 ?_
            refine V_iconst dX2_readRow_58 ?_
            refine V_icmp_eq (tgt := 68) dX2_readRow_59 rfl (by unfold ri; omega) (by unfold ri; omega) (fun b59 => ?_) (fun b59 => ?_)
            · refine V_al3n dX2_readRow_68 ?_
              refine V_al0n dX2_readRow_69 ?_
              refine V_getR kk2 (by decide) fl_X2_42 (fx_2_0 hρ) dX2_readRow_70 ?_
              refine V_getI kk4 (by decide) fl_X2_115 v3 dX2_readRow_73 ?_
              refine V_callV (as := [_]) ml_X2_122 im_X3_open se_X3_open hkd.1 (by decide) (kdlt hkd.1 (by decide)) dX2_readRow_76 rfl rfl (by decide) (by decide) (Nat.le_of_ble_eq_true rfl) (by decide) (by decide) rfl (hop) ?_
              refine pq4 ?_
              refine V_iconst dX2_readRow_79 ?_
              refine V_is4 dX2_readRow_80 (by decide) rfl ?_
              have fo : ∀ a k, ¬ (a = b + 3 + 3 * i ∧ k = n) → ¬ (a = b + 4 + 3 * i ∧ n * wdK i ≤ k) → ropF b i n (ψ 104 9) (wdK i) f1 a k = f1 a k := fun a k z1 z2 => by unfold ropF; rw [if_neg (by omega), if_neg z1]
              exact hX _ _ hlt en (hpr.cg (fun k => fo 4 k (by omega) (by omega)) (fun k => fo 1 k (by omega) (by omega)) rfl (fun _ _ _ => rfl) ⟨fo _ _ (by omega) (by omega), fo _ _ (by omega) (by omega)⟩) (hK1.up (by omega) (by omega) (by omega)).tk (by rw [tkF_r (by omega), u2_s]; unfold ropF; rw [if_neg (by omega), if_pos ⟨rfl, rfl⟩]) (fun j hj => by unfold ropF; rw [if_pos (by omega)]) ((RowKf.kt k1).tr (fun a k z1 z2 z3 z4 => fo a k z3 z4))
            · exfalso; omega
          · simp [e2] at b38
      · have en : hdF i n φ = (false, wrg 1 ψ) := by rw [eh]; unfold nnF; rw [if_pos e2]
        refine V_al0n dX2_readRow_31 ?_
        refine V_getR kk2 (by decide) fl_X2_42 (fx_2_0 hρ) dX2_readRow_32 ?_
        refine V_callV (as := []) ml_X2_111 im_X6_isName se_X6_isName kk4 (by decide) (by decide) dX2_readRow_35 rfl rfl (by decide) (by decide) (Nat.le_of_ble_eq_true rfl) (by decide) (by decide) rfl (c_isName hc1 hK1) ?_
        refine pq4 ?_
        refine V_bf (tgt := 47) dX2_readRow_38 rfl (fun b38 => ?_) (fun b38 => ?_)
        · simp [e2] at b38
        · refine V_al0n dX2_readRow_41 ?_
          refine V_iconst dX2_readRow_42 ?_
          refine V_callV (as := [_]) ml_X2_68 im_X2_refuse se_X2_refuse kk2 (by decide) (by decide) dX2_readRow_43 rfl rfl (by decide) (by decide) (Nat.le_of_ble_eq_true rfl) (by decide) (by decide) rfl (c_refuse hρ) ?_
          refine pq4 ?_
          exact V_zreturn rfl (by first | exact Or.inl rfl | exact Or.inr rfl | (unfold bz; split <;> simp)) (hF _ _ en (rfF_fl hc1.2.1.1) ((RowKf.kt k1).tr RowKf.rf2)) dX2_readRow_46
    refine V_al1n dX2_readRow_0 ?_
    refine V_getR (kb_0 hb) (kl_0 hb) fl_X2_99 (fb_0_0 hρ hb) dX2_readRow_1 ?_
    refine V_il2n dX2_readRow_4 ?_
    refine V_aald (k := i) (kb_1 hb) (by decide) (kl_1 hb) (by first | rfl | omega) (by omega) (by decide) hfx.1 dX2_readRow_5 ?_
    refine V_as3n dX2_readRow_6 (by decide) rfl ?_
    refine V_al3n dX2_readRow_7 ?_
    refine V_getI hkd.1 (kdlt hkd.1 (by decide)) fl_X2_103 hR.1 dX2_readRow_8 ?_
    refine V_al3n dX2_readRow_11 ?_
    refine V_getI hkd.1 (kdlt hkd.1 (by decide)) fl_X2_108 hR.2.1 dX2_readRow_12 ?_
    refine V_icmp_lt (tgt := 24) dX2_readRow_15 rfl (by unfold ri; omega) (by unfold ri; omega) (fun b15 => ?_) (fun b15 => ?_)
    · refine V_al0n dX2_readRow_24 ?_
      refine V_getR kk2 (by decide) fl_X2_42 (fx_2_0 hρ) dX2_readRow_25 ?_
      refine V_callV (as := []) ml_X2_55 im_X6_next se_X6_next kk4 (by decide) (by decide) dX2_readRow_28 rfl rfl (by decide) (by decide) (Nat.le_of_ble_eq_true rfl) (by decide) (by decide) rfl (c_nextP hρ hp) ?_
      rintro r28 ρ28 f28 g28 ⟨rfl, s28_0, k28, c28, s28_1⟩
      obtain rfl := s28_0.symm
      obtain rfl := s28_1.symm
      exact go f28 k28 c28
    · exfalso; omega
theorem w_row82 {Q : QT} {f0 : IT} (hρ : Fx ρ) (hb : b = 5 ∨ b = 30) (hi : i < 5) (hn : n < mxK i) (hR : RWs b i n f0) {φ0 : IT} {v3 : Value} {R : Bool × IT}
    (hF : ∀ (f' φ' : IT), R = (false, φ') → FLm f' φ' → RowKf b i n f0 f' → Q (some (.int (iz (bz false)))) ρ f' g)
    (hX : ∀ (f' φ1 : IT), R = (true, φ1) → PRE f' φ1 → PK φ1 → RowKf b i n f0 f' → f' (b + 3 + 3 * i) n = f0 (b + 3 + 3 * i) n → (∀ j, j < NUt i → f' (b + 4 + 3 * i) (n * wdK i + j) = φ1 (colR i j) (mxK i + n)) → (∀ j, NUt i ≤ j → j < wdK i → f' (b + 4 + 3 * i) (n * wdK i + j) = f0 (b + 4 + 3 * i) (n * wdK i + j)) → V_X2_readRow Q 147 [.ref 2, .ref b, .int (iz (i : Int)), .ref (b + 2 + 3 * i), .null] [] ρ f' g)
    (r j : Nat) (hrj : r + j = NUt i) (f φ : IT) (hp : PRE f φ) (hK : PK φ) (hk : RowKf b i n f0 f) (hnm : f (b + 3 + 3 * i) n = f0 (b + 3 + 3 * i) n) (hd : ∀ j', j' < j → f (b + 4 + 3 * i) (n * wdK i + j') = φ (colR i j') (mxK i + n)) (hz : ∀ j', NUt i ≤ j' → j' < wdK i → f (b + 4 + 3 * i) (n * wdK i + j') = f0 (b + 4 + 3 * i) (n * wdK i + j')) (hRR : nmsF i n r j φ = R) :
    V_X2_readRow Q 82 [.ref 2, .ref b, .int (iz (i : Int)), .ref (b + 2 + 3 * i), .int (iz (j : Int))] [] ρ f g := by
  have hkd := kdR hb hi
  have hnw := NU_w i hi
  have hm := mw_r i hi
  cases r with
  | zero =>
    simp only [nmsF] at hRR
    refine V_il4 dX2_readRow_82 ?_
    refine V_gets (j := 1) (by decide) fs_X2_124 dX2_readRow_84 ?_
    refine V_il2n dX2_readRow_87 ?_
    refine V_stld (j := 1) (by decide) rfl (show i < 5 from hi) (st_1 i hi) dX2_readRow_88 ?_
    refine V_icmp_ge (tgt := 147) dX2_readRow_89 rfl (by unfold ri; omega) (by unfold ri; omega) (fun b89 => ?_) (fun b89 => ?_)
    · exact V_weak (by repeat (first | exact wk_n | refine wk_c (Or.inr rfl) ?_ | refine wk_c (Or.inl rfl) ?_)) (hX f φ hRR.symm hp hK hk hnm (fun j' hj' => hd j' (by omega)) hz)
    · exfalso; omega
  | succ r' =>
    have hl15 : 3 * i + j < 15 := by omega
    have hlh := LH_r (3 * i + j) hl15
    have e3 : 3 * (i : Int) + (j : Int) = ((3 * i + j : Nat) : Int) := by omega
    have hcl := colR_r i hi j (by omega)
    rw [nmsF] at hRR
    have go : ∀ f1 : IT, KT4 f f1 → CUR f1 φ → V_X2_readRow Q 99 [.ref 2, .ref b, .int (iz (i : Int)), .ref (b + 2 + 3 * i), .int (iz (j : Int))] [] ρ f1 g := by
      intro f1 k1 hc1
      have hR1 : RWs b i n f1 := (hk.tr (RowKf.kt k1)).rws hb hi hR
      have hnum := c_isNumber (g := g) hρ hc1 hK (lo := LOt (3 * i + j)) (hi := HIt (3 * i + j)) (by omega) (by omega) (by unfold ri; omega) (by unfold ri; omega)
      have c1 : ∀ k, f1 (b + 4 + 3 * i) k = f (b + 4 + 3 * i) k := fun k => k1 _ _ (by omega)
      cases en : (numF (LOt (3 * i + j)) (HIt (3 * i + j)) φ).1 with
      | false =>
        rw [thn_f en] at hRR
        rw [en] at hnum
        refine V_al0n dX2_readRow_99 ?_
        refine V_gets (j := 2) (by decide) fs_X2_127 dX2_readRow_100 ?_
        refine V_iconst dX2_readRow_103 ?_
        refine V_il2n dX2_readRow_104 ?_
        refine V_imul dX2_readRow_105 ?_
        refine V_il4 dX2_readRow_106 ?_
        refine V_iadd dX2_readRow_108 ?_
        refine V_stld (j := 2) (by decide) e3 (show 3 * i + j < 15 from hl15) (st_2 _ hl15) dX2_readRow_109 ?_
        refine V_gets (j := 3) (by decide) fs_X2_130 dX2_readRow_110 ?_
        refine V_iconst dX2_readRow_113 ?_
        refine V_il2n dX2_readRow_114 ?_
        refine V_imul dX2_readRow_115 ?_
        refine V_il4 dX2_readRow_116 ?_
        refine V_iadd dX2_readRow_118 ?_
        refine V_stld (j := 3) (by decide) e3 (show 3 * i + j < 15 from hl15) (st_3 _ hl15) dX2_readRow_119 ?_
        refine V_callV (as := [_, _]) ml_X2_133 im_X2_isNumber se_X2_isNumber kk2 (by decide) (by decide) dX2_readRow_120 rfl rfl (by decide) (by decide) (Nat.le_of_ble_eq_true rfl) (by decide) (by decide) rfl (hnum) ?_
        rintro r120 ρ120 f120 g120 ⟨rfl, s120_0, -, n2, s120_1⟩
        obtain rfl := s120_0.symm
        obtain rfl := s120_1.symm
        refine V_bf (tgt := 128) dX2_readRow_123 rfl (fun b123 => ?_) (fun b123 => ?_)
        · cases b123
        · obtain ⟨w, rfl, ew⟩ := n2 rfl
          refine V_iconst dX2_readRow_126 ?_
          exact V_zreturn rfl (by first | exact Or.inl rfl | exact Or.inr rfl | (unfold bz; split <;> simp)) (hF _ _ hRR.symm (by rw [ew]; exact rfF_fl hc1.2.1.1) ((hk.tr (RowKf.kt k1)).tr RowKf.rf2)) dX2_readRow_127
      | true =>
        rw [thn_t en] at hRR
        rw [en] at hnum
        refine V_al0n dX2_readRow_99 ?_
        refine V_gets (j := 2) (by decide) fs_X2_127 dX2_readRow_100 ?_
        refine V_iconst dX2_readRow_103 ?_
        refine V_il2n dX2_readRow_104 ?_
        refine V_imul dX2_readRow_105 ?_
        refine V_il4 dX2_readRow_106 ?_
        refine V_iadd dX2_readRow_108 ?_
        refine V_stld (j := 2) (by decide) e3 (show 3 * i + j < 15 from hl15) (st_2 _ hl15) dX2_readRow_109 ?_
        refine V_gets (j := 3) (by decide) fs_X2_130 dX2_readRow_110 ?_
        refine V_iconst dX2_readRow_113 ?_
        refine V_il2n dX2_readRow_114 ?_
        refine V_imul dX2_readRow_115 ?_
        refine V_il4 dX2_readRow_116 ?_
        refine V_iadd dX2_readRow_118 ?_
        refine V_stld (j := 3) (by decide) e3 (show 3 * i + j < 15 from hl15) (st_3 _ hl15) dX2_readRow_119 ?_
        refine V_callV (as := [_, _]) ml_X2_133 im_X2_isNumber se_X2_isNumber kk2 (by decide) (by decide) dX2_readRow_120 rfl rfl (by decide) (by decide) (Nat.le_of_ble_eq_true rfl) (by decide) (by decide) rfl (hnum) ?_
        rintro r120 ρ120 f120 g120 ⟨rfl, s120_0, n1, -, s120_1⟩
        obtain rfl := s120_0.symm
        obtain rfl := s120_1.symm
        refine V_bf (tgt := 128) dX2_readRow_123 rfl (fun b123 => ?_) (fun b123 => ?_)
        · obtain ⟨e120, v5, vr, v8, vt⟩ := n1 rfl
          obtain rfl := e120.symm
          refine V_al3n dX2_readRow_128 ?_
          refine V_il4 dX2_readRow_129 ?_
          refine V_al0n dX2_readRow_131 ?_
          refine V_getR kk2 (by decide) fl_X2_42 (fx_2_0 hρ) dX2_readRow_132 ?_
          refine V_getI kk4 (by decide) fl_X2_115 v5 dX2_readRow_135 ?_
          refine V_callV (as := [_, _]) ml_X2_137 im_X3_put se_X3_put hkd.1 (by decide) (kdlt hkd.1 (by decide)) dX2_readRow_138 rfl rfl (by decide) (by decide) (Nat.le_of_ble_eq_true rfl) (by decide) (by decide) rfl (c_rput hρ hb hi hR1 hn (j := j) (by omega)) ?_
          refine pq4 ?_
          refine V_inc4 dX2_readRow_141 (by decide) rfl ?_
          refine V_goto (tgt := 82) dX2_readRow_144 rfl ?_
          have hg : (numF (LOt (3 * i + j)) (HIt (3 * i + j)) φ).2 104 11 = φ 104 9 := by rw [vt, tkF_o (by omega), u2_s]
          rw [hg, vt] at hRR
          have hp2 : PRE f1 (tkF (u2 φ 104 11 (φ 104 9))) := hc1.pre hK.1 (u2_row (by omega)) (u2_o (by omega)) (u2_o (by omega))
          have hK2 : PK (tkF (u2 φ 104 11 (φ 104 9))) := (hK.up (by omega) (by omega) (by omega)).tk
          have fo : ∀ a k, ¬ (a = b + 4 + 3 * i ∧ k = n * wdK i + j) → u2 f1 (b + 4 + 3 * i) (n * wdK i + j) (φ 104 9) a k = f1 a k := fun a k z => u2_o z
          refine w_row82 (φ0 := φ0) (v3 := v3) hρ hb hi hn hR hF hX r' (j + 1) (by omega) _ (u2 (tkF (u2 φ 104 11 (φ 104 9))) (colR i j) (mxK i + n) (φ 104 9)) (hp2.cg (fun k => fo 4 k (by omega)) (fun k => fo 1 k (by omega)) (u2_row (by omega)) (fun k h1 h2 => u2_o (by omega))) (hK2.up (by omega) (by omega) (by omega)) ((hk.tr (RowKf.kt k1)).tr (fun a k z1 z2 z3 z4 => fo a k (fun z => z4 ⟨z.1, by omega⟩))) ?_ (fun j' hj' => ?_) (fun j' h1 h2 => ?_) hRR
          · rw [fo _ _ (by omega), k1 _ _ (by omega)]; exact hnm
          · by_cases ej : j' = j
            · rw [ej, u2_s, u2_s]
            · rw [fo _ _ (by omega), c1, u2_o (by unfold colR; omega), tkF_r (by unfold colR; (repeat' split) <;> omega), u2_o (by unfold colR; (repeat' split) <;> omega)]; exact hd j' (by omega)
          · rw [fo _ _ (by omega), c1]; exact hz j' h1 h2
        · cases b123
    refine V_il4 dX2_readRow_82 ?_
    refine V_gets (j := 1) (by decide) fs_X2_124 dX2_readRow_84 ?_
    refine V_il2n dX2_readRow_87 ?_
    refine V_stld (j := 1) (by decide) rfl (show i < 5 from hi) (st_1 i hi) dX2_readRow_88 ?_
    refine V_icmp_ge (tgt := 147) dX2_readRow_89 rfl (by unfold ri; omega) (by unfold ri; omega) (fun b89 => ?_) (fun b89 => ?_)
    · exfalso; omega
    · refine V_al0n dX2_readRow_92 ?_
      refine V_getR kk2 (by decide) fl_X2_42 (fx_2_0 hρ) dX2_readRow_93 ?_
      refine V_callV (as := []) ml_X2_55 im_X6_next se_X6_next kk4 (by decide) (by decide) dX2_readRow_96 rfl rfl (by decide) (by decide) (Nat.le_of_ble_eq_true rfl) (by decide) (by decide) rfl (c_nextP hρ hp) ?_
      rintro r96 ρ96 f96 g96 ⟨rfl, s96_0, k96, c96, s96_1⟩
      obtain rfl := s96_0.symm
      obtain rfl := s96_1.symm
      exact go f96 k96 c96
termination_by r
end CROWA

