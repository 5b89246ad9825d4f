/-- what a line read leaves -/
def LnP (b : Nat) (R : Bool × IT) (f f' : IT) : Prop := (∀ a k, a ≠ 2 → a ≠ 3 → a ≠ 4 → ¬ (b ≤ a ∧ a ≤ b + 24 ∧ ¬ (b + 2 ≤ a ∧ a ≤ b + 14 ∧ (a - b) % 3 = 2 ∧ k ≤ 1)) → f' a k = f a k) ∧ f' 4 1 = f 4 1 ∧ f' b 4 = f b 4 ∧ (R.1 = true → PRE f' R.2 ∧ CT (rdT R.2) b f') ∧ (R.1 = false → FLm f' R.2)
section CROWG
variable {ρ : RT} {g : JT} {b i n : Nat}
theorem hdF_o {φ : IT} (hi : i < 5) {a k : Nat} (h : ¬ (a = 104 ∧ (k = 4 ∨ k = 5 ∨ 7 ≤ k ∧ k ≤ 11))) (h2 : ¬ (a = nmR i ∧ k = mxK i + n)) : (hdF i n φ).2 a k = φ a k := by
  unfold hdF
  split
  · unfold wrg; simp only; rw [u2_o (by omega), u2_o (by omega)]
  · rw [nnF_o h h2, tkF_o (by omega)]
theorem nmsF_o {a k : Nat} (h : ¬ (a = 104 ∧ (k = 4 ∨ k = 5 ∨ 7 ≤ k ∧ k ≤ 11))) : ∀ (r j : Nat) (φ : IT), (∀ j', j ≤ j' → j' < j + r → ¬ (a = colR i j' ∧ k = mxK i + n)) → (nmsF i n r j φ).2 a k = φ a k
  | 0, j, φ, _ => rfl
  | r + 1, j, φ, h2 => by
    rw [nmsF]
    cases e : (numF (LOt (3 * i + j)) (HIt (3 * i + j)) φ).1 with
    | false => rw [thn_f e]; exact numF_o h
    | true =>
      rw [thn_t e, nmsF_o h r (j + 1) _ (fun j' h3 h4 => h2 j' (by omega) (by omega)), u2_o (h2 j (by omega) (by omega))]
      exact numF_o h
theorem w_row191 {f ψ : IT} (hρ : Fx ρ) (hb : b = 5 ∨ b = 30) (hi : i < 5) (hc : CUR f ψ) (hK : PK ψ) (hR : RWs b i n f) {Q : QT} (hT : sgnB 59 ψ = true → Q (some (.int (iz (bz true)))) ρ (u2 f (b + 2 + 3 * i) 4 ((n : Int) + 1)) g) (hF : sgnB 59 ψ = false → Q (some (.int (iz (bz false)))) ρ (rfF 1 f) g) :
    V_X2_readRow Q 191 [.ref 2, .ref b, .int (iz (i : Int)), .ref (b + 2 + 3 * i), .null] [] ρ f g := by
  have hkd := kdR hb hi
  have he := c_ends (g := g) hρ hc hK
  cases c : sgnB 59 ψ with
  | true =>
    rw [c, if_pos rfl] at he
    refine V_al0n dX2_readRow_191 ?_
    refine V_callV (as := []) ml_X2_152 im_X2_ends se_X2_ends kk2 (by decide) (by decide) dX2_readRow_192 rfl rfl (by decide) (by decide) (Nat.le_of_ble_eq_true rfl) (by decide) (by decide) rfl (he) ?_
    refine pq4 ?_
    refine V_bt (tgt := 209) dX2_readRow_195 rfl (fun b195 => ?_) (fun b195 => ?_)
    · cases b195
    · refine V_al3n dX2_readRow_198 ?_
      refine V_callV (as := []) ml_X2_155 im_X3_close se_X3_close hkd.1 (by decide) (kdlt hkd.1 (by decide)) dX2_readRow_199 rfl rfl (by decide) (by decide) (Nat.le_of_ble_eq_true rfl) (by decide) (by decide) rfl (c_rclose hb hi hR) ?_
      refine pq4 ?_
      refine V_bt (tgt := 209) dX2_readRow_202 rfl (fun b202 => ?_) (fun b202 => ?_)
      · cases b202
      · refine V_iconst dX2_readRow_205 ?_
        refine V_goto (tgt := 210) dX2_readRow_206 rfl ?_
        exact V_zreturn rfl (by first | exact Or.inl rfl | exact Or.inr rfl | (unfold bz; split <;> simp)) (hT c) dX2_readRow_210
  | false =>
    rw [c, if_neg Bool.false_ne_true] at he
    refine V_al0n dX2_readRow_191 ?_
    refine V_callV (as := []) ml_X2_152 im_X2_ends se_X2_ends kk2 (by decide) (by decide) dX2_readRow_192 rfl rfl (by decide) (by decide) (Nat.le_of_ble_eq_true rfl) (by decide) (by decide) rfl (he) ?_
    refine pq4 ?_
    refine V_bt (tgt := 209) dX2_readRow_195 rfl (fun b195 => ?_) (fun b195 => ?_)
    · refine V_iconst dX2_readRow_209 ?_
      exact V_zreturn rfl (by first | exact Or.inl rfl | exact Or.inr rfl | (unfold bz; split <;> simp)) (hF c) dX2_readRow_210
    · cases b195
/-- how the spare's rows stand before a line -/
theorem CT.rws {φ f : IT} (hC : CT (rdT φ) b f) (hi : i < 5) (hn : φ 104 (20 + i) = (n : Int)) : RWs b i n f ∧ ∀ k, k < n → f (b + 3 + 3 * i) k = φ (nmR i) (mxK i + k) := by
  have h1 := hC.1 i hi
  rw [rdT_n, hn] at h1
  refine ⟨h1, fun k hk => ?_⟩
  have := hC.2.1 i k hi (by rw [rdT_n, hn]; omega)
  rw [namT_r i hi] at this
  exact this
theorem RwK.nmi {φ : IT} (h : RwK φ) (hi : i < 5) : ∀ k, ri (φ (nmR i) k) := fun k => by
  have := h.1 k
  rcases (show i = 0 ∨ i = 1 ∨ i = 2 ∨ i = 3 ∨ i = 4 by omega) with rfl | rfl | rfl | rfl | rfl
  · exact this.1
  · exact this.2.1
  · exact this.2.2.1
  · exact this.2.2.2.1
  · exact this.2.2.2.2
theorem RwK.cni {φ : IT} (h : RwK φ) (hi : i < 5) : 0 ≤ φ 104 (20 + i) ∧ φ 104 (20 + i) ≤ (mxK i : Int) := by
  obtain ⟨-, -, h0, h1, h2, h3, h4, -⟩ := h
  rcases (show i = 0 ∨ i = 1 ∨ i = 2 ∨ i = 3 ∨ i = 4 by omega) with rfl | rfl | rfl | rfl | rfl
  · exact h0
  · exact h1
  · exact h2
  · exact h3
  · exact h4
/-- the line of a man, a hold or a judge, its end with it -/
def rowR (i n : Nat) (φ : IT) : Bool × IT := thn (hdF i n φ) fun φ1 => thn (nmsF i n (NUt i) 0 φ1) fun φ4 => lnE (u2 φ4 104 (20 + i) ((n : Int) + 1))
theorem tcl_c {φ : IT} (hi : i = 1 ∨ i = 2 ∨ i = 4) {j : Nat} (hj : j < wdK i) : tcl (rdT φ) i n j = φ (colR i j) (mxK i + n) ∧ wdK i = NUt i := by
  rcases hi with rfl | rfl | rfl
  · have : wdK 1 = 3 := rfl
    rcases (show j = 0 ∨ j = 1 ∨ j = 2 by omega) with rfl | rfl | rfl <;> exact ⟨rfl, rfl⟩
  · have : wdK 2 = 3 := rfl
    rcases (show j = 0 ∨ j = 1 ∨ j = 2 by omega) with rfl | rfl | rfl <;> exact ⟨rfl, rfl⟩
  · have : wdK 4 = 2 := rfl
    rcases (show j = 0 ∨ j = 1 by omega) with rfl | rfl <;> exact ⟨rfl, rfl⟩
theorem col_rw : ∀ i : Nat, i < 5 → i ≠ 3 → ∀ j : Nat, j < NUt i → nmR i < colR i j ∧ (colR i j < nmR (i + 1) ∨ (i = 4 ∧ (colR i j = 125 ∨ colR i j = 126))) ∧ half (colR i j) = mxK i ∧ colR i j ≠ 123 := by
  intro i hi h3 j hj
  have := (NU_w i hi).1
  rcases (show i = 0 ∨ i = 1 ∨ i = 2 ∨ i = 4 by omega) with rfl | rfl | rfl | rfl <;> rcases (show j = 0 ∨ j = 1 ∨ j = 2 by omega) with rfl | rfl | rfl <;> first | decide | (exfalso; revert hj; decide)
theorem RowKf.ln {f f' : IT} {m : Nat} (hb : b = 5 ∨ b = 30) (hi : i < 5) (h : RowKf b i m f f') : (∀ a k, a ≠ 2 → a ≠ 3 → a ≠ 4 → ¬ (b ≤ a ∧ a ≤ b + 24 ∧ ¬ (b + 2 ≤ a ∧ a ≤ b + 14 ∧ (a - b) % 3 = 2 ∧ k ≤ 1)) → f' a k = f a k) ∧ f' 4 1 = f 4 1 ∧ (∀ k, f' b k = f b k ∧ f' (b + 17) k = f (b + 17) k) := ⟨fun a k z1 z2 z3 z4 => h a k z1 (by omega) (by omega) (by omega), h 4 1 (by omega) (by omega) (by omega) (by omega), fun k => ⟨h b k (by omega) (by omega) (by omega) (by omega), h (b + 17) k (by omega) (by omega) (by omega) (by omega)⟩⟩
theorem c_rowG {f φ : IT} (hρ : Fx ρ) (hb : b = 5 ∨ b = 30) (hi : i = 1 ∨ i = 2 ∨ i = 4) (hn : φ 104 (20 + i) = (n : Int)) (hC : CT (rdT φ) b f) (hc : CUR f φ) (hG : Good φ) :
    C_X2_readRow [.ref 2, .ref b, .int (iz (i : Int))] ρ f g (fun r ρ' f' g' => r = some (.int (iz (bz (rowR i n φ).1))) ∧ ρ' = ρ ∧ LnP b (rowR i n φ) f f' ∧ (∀ k, f' b k = f b k ∧ f' (b + 17) k = f (b + 17) k) ∧ g' = g) := by
  have hi5 : i < 5 := by omega
  have hK := hG.1
  have hnm : n ≤ mxK i := by have := hG.2.cni hi5; omega
  obtain ⟨hR, hN⟩ := hC.rws hi5 hn
  have hm := mw_r i hi5
  have hkd := kdR hb hi5
  have hn0 := nmR_r i hi5
  have bad : ∀ (f' φ' : IT), rowR i n φ = (false, φ') → FLm f' φ' → RowKf b i n f f' → (some (Value.int (iz (bz false))) = some (Value.int (iz (bz (rowR i n φ).1))) ∧ ρ = ρ ∧ LnP b (rowR i n φ) f f' ∧ (∀ k, f' b k = f b k ∧ f' (b + 17) k = f (b + 17) k) ∧ g = g) := fun f' φ' h1 h2 h3 => by
    obtain ⟨l1, l2, l3⟩ := h3.ln hb hi5
    rw [h1]
    exact ⟨rfl, rfl, ⟨l1, l2, (l3 4).1, (fun q => by (cases q)), fun _ => h2⟩, l3, rfl⟩
  refine Ct.ofV (by decide) rfl (Nat.le_of_ble_eq_true rfl) ?_
  refine w_rowA hρ hb hi5 hn hnm hR hN (hG.2.nmi hi5) hc hK (fun f' φ' h1 h2 h3 => bad f' φ' (by unfold rowR; rw [h1, thn_f rfl]) h2 h3) ?_
  intro f1 φ1 hlt h1 hp1 hK1 hnm1 hz1 hk1
  have hR1 := hk1.rws hb hi5 hR
  refine w_row82 (φ0 := φ) (v3 := .null) (f0 := f1) (R := nmsF i n (NUt i) 0 φ1) hρ hb hi5 hlt hR1 (fun f' φ' h2 h3 h4 => bad f' φ' (by unfold rowR; rw [h1, thn_tt, h2, thn_f rfl]) h3 (hk1.tr h4)) ?_ (NUt i) 0 (by omega) f1 φ1 hp1 hK1 RowKf.rf rfl (fun j' hj' => by omega) (fun _ _ _ => rfl) rfl
  intro f4 φ4 h4 hp4 hK4 hk4 hnm4 hcl4 hz4
  have eR : rowR i n φ = lnE (u2 φ4 104 (20 + i) ((n : Int) + 1)) := by unfold rowR; rw [h1, thn_tt, h4, thn_tt]
  have hk14 := hk1.tr hk4
  have o4 : ∀ a k, ¬ (a = 104 ∧ (k = 4 ∨ k = 5 ∨ 7 ≤ k ∧ k ≤ 11)) → ¬ (a = nmR i ∧ k = mxK i + n) → (∀ j', j' < NUt i → ¬ (a = colR i j' ∧ k = mxK i + n)) → φ4 a k = φ a k := fun a k z1 z2 z3 => by
    have e1 : φ4 = (nmsF i n (NUt i) 0 φ1).2 := by rw [h4]
    have e2 : φ1 = (hdF i n φ).2 := by rw [h1]
    rw [e1, nmsF_o z1 _ _ _ (fun j' h5 h6 => z3 j' (by omega)), e2, hdF_o hi5 z1 z2]
  have n4 : φ4 (nmR i) (mxK i + n) = φ1 (nmR i) (mxK i + n) := by
    have e1 : φ4 = (nmsF i n (NUt i) 0 φ1).2 := by rw [h4]
    rw [e1, nmsF_o (by omega) _ _ _ (fun j' h5 h6 z => by have := col_rw i hi5 (by omega) j' (by omega); omega)]
  have go : ∀ f5 : IT, KT4 f4 f5 → CUR f5 φ4 → V_X2_readRow (fun r ρ' f' g' => r = some (.int (iz (bz (rowR i n φ).1))) ∧ ρ' = ρ ∧ LnP b (rowR i n φ) f f' ∧ (∀ k, f' b k = f b k ∧ f' (b + 17) k = f (b + 17) k) ∧ g' = g) 191 [.ref 2, .ref b, .int (iz (i : Int)), .ref (b + 2 + 3 * i), .null] [] ρ f5 g := by
    intro f5 k5 c5
    have hk5 : RowKf b i n f f5 := hk14.tr (RowKf.kt k5)
    obtain ⟨l1, l2, l3⟩ := hk5.ln hb hi5
    have c6 : CUR f5 (u2 φ4 104 (20 + i) ((n : Int) + 1)) := c5.cg (fun _ => rfl) (fun _ => rfl) (u2_row (by omega)) (fun k z1 z2 => u2_o (by omega))
    have hK6 : PK (u2 φ4 104 (20 + i) ((n : Int) + 1)) := hK4.up (by omega) (by omega) (by omega)
    have p6 := fun ψ (e1 : ψ 105 = (u2 φ4 104 (20 + i) ((n : Int) + 1)) 105) e2 e3 e4 => c6.pre (φ' := ψ) hK6.1 e1 e2 e3 e4
    have P4 : ∀ a k, ¬ (a = 104 ∧ 7 ≤ k ∧ k ≤ 10) → ¬ (a = 104 ∧ k = 20 + i) → tkF (u2 φ4 104 (20 + i) ((n : Int) + 1)) a k = φ4 a k := fun a k z1 z2 => by rw [tkF_o z1, u2_o (by omega)]
    refine w_row191 hρ hb hi5 c6 hK6 (hk5.rws hb hi5 hR) (fun s => ?_) (fun s => ?_)
    · have e2 : rowR i n φ = (true, tkF (u2 φ4 104 (20 + i) ((n : Int) + 1))) := by rw [eR]; unfold lnE; rw [if_pos s]
      have fo : ∀ a k, ¬ (a = b + 2 + 3 * i ∧ k = 4) → u2 f5 (b + 2 + 3 * i) 4 ((n : Int) + 1) a k = f5 a k := fun a k z => u2_o z
      rw [e2]
      refine ⟨rfl, rfl, ⟨fun a k z1 z2 z3 z4 => (fo a k (by omega)).trans (l1 a k z1 z2 z3 z4), (fo 4 1 (by omega)).trans l2, (fo b 4 (by omega)).trans (l3 4).1, fun _ => ⟨(p6 _ rfl rfl rfl ⟨rfl, rfl⟩).cg (fun k => fo 4 k (by omega)) (fun k => fo 1 k (by omega)) rfl (fun _ _ _ => rfl), ?_⟩, (fun q => by (cases q))⟩, fun k => ⟨(fo b k (by omega)).trans (l3 k).1, (fo (b + 17) k (by omega)).trans (l3 k).2⟩, rfl⟩
      refine CT_close (φ' := tkF (u2 φ4 104 (20 + i) ((n : Int) + 1))) hb hi5 hC hn (fun j hj hji => ?_) ?_ ?_ (fun a k z1 z2 z3 => ?_) (fun z => by omega) (fun a k z1 z2 z3 z4 z5 => ?_) u2_s ?_ (fun j hj => ?_)
      · rw [P4 _ _ (by omega) (by omega)]; exact o4 _ _ (by omega) (by omega) (fun j' h7 z => by have := col_rw i hi5 (by omega) j' h7; omega)
      · rw [tkF_o (by omega), u2_s]
      · rw [P4 _ _ (by omega) (by omega)]; exact o4 _ _ (by omega) (by omega) (fun j' h7 z => by have := col_rw i hi5 (by omega) j' h7; omega)
      · rw [P4 _ _ (by omega) (by omega)]
        refine o4 _ _ (by omega) (fun z => z3 ⟨?_, ?_⟩) (fun j' h7 z => z3 ⟨?_, ?_⟩)
        · rw [z.1]; unfold rwK; rcases hi with rfl | rfl | rfl <;> (simp [nmR])
        · rw [z.1, half_nm i hi5, if_neg (by rcases hi with rfl | rfl | rfl <;> decide)]; omega
        · have := col_rw i hi5 (by omega) j' h7; rw [z.1]; unfold rwK; omega
        · have := col_rw i hi5 (by omega) j' h7; rw [z.1, if_neg this.2.2.2, this.2.2.1]; omega
      · rw [fo a k z3]; exact hk5 a k (by omega) (by omega) z4 z5
      · rw [fo _ _ (by omega), k5 _ _ (by omega), hnm4, hnm1, P4 _ _ (by omega) (by omega), n4]
      · have ht := tcl_c (φ := tkF (u2 φ4 104 (20 + i) ((n : Int) + 1))) (n := n) hi hj
        have hcr := col_rw i hi5 (by omega) j (by omega)
        rw [fo _ _ (by omega), k5 _ _ (by omega), hcl4 j (by omega), ht.1, P4 _ _ (by omega) (by omega)]
    · have e2 : rowR i n φ = (false, wrg 1 (u2 φ4 104 (20 + i) ((n : Int) + 1))) := by rw [eR]; unfold lnE; rw [if_neg (by rw [s]; exact Bool.false_ne_true)]
      exact bad _ _ e2 (rfF_fl c6.2.1.1) (hk5.tr RowKf.rf2)
  refine V_il2n dX2_readRow_147 ?_
  refine V_iconst dX2_readRow_148 ?_
  refine V_icmp_ne (tgt := 162) dX2_readRow_149 rfl (by unfold ri; omega) (by unfold ri; omega) (fun b149 => ?_) (fun b149 => ?_)
  · refine V_al0n dX2_readRow_162 ?_
    refine V_getR kk2 (by decide) fl_X2_42 (fx_2_0 hρ) dX2_readRow_163 ?_
    refine V_callV (as := []) ml_X2_55 im_X6_next se_X6_next kk4 (by decide) (by decide) dX2_readRow_166 rfl rfl (by decide) (by decide) (Nat.le_of_ble_eq_true rfl) (by decide) (by decide) rfl (c_nextP hρ hp4) ?_
    rintro r166 ρ166 f166 g166 ⟨rfl, s166_0, k166, c166, s166_1⟩
    obtain rfl := s166_0.symm
    obtain rfl := s166_1.symm
    refine V_il2n dX2_readRow_169 ?_
    refine V_if_ne (tgt := 178) dX2_readRow_170 rfl (by unfold ri; omega) (fun b170 => ?_) (fun b170 => ?_)
    · refine V_il2n dX2_readRow_178 ?_
      refine V_iconst dX2_readRow_179 ?_
      refine V_icmp_ne (tgt := 191) dX2_readRow_180 rfl (by unfold ri; omega) (by unfold ri; omega) (fun b180 => ?_) (fun b180 => ?_)
      · exact go f166 k166 c166
      · exfalso; omega
    · exfalso; omega
  · exfalso; omega
theorem rowR_man {φ : IT} (hn : φ 104 21 = (n : Int)) : thn (manF φ) lnE = rowR 1 n φ := by
  unfold manF rowR hdF
  rw [show φ 104 (20 + 1) = φ 104 21 from rfl, show ((mxK 1 : Nat) : Int) = 5 from rfl]
  by_cases c : φ 104 21 = 5
  · rw [if_pos c, if_pos c, thn_f rfl, thn_f rfl]
  · rw [if_neg c, if_neg c, hn, Int.toNat_natCast]
    unfold manN
    simp only [thn_as, thn_tt, nmsF, show NUt 1 = 3 from rfl]
    rfl
theorem rowR_hold {φ : IT} (hn : φ 104 22 = (n : Int)) : thn (holdF φ) lnE = rowR 2 n φ := by
  unfold holdF rowR hdF
  rw [show φ 104 (20 + 2) = φ 104 22 from rfl, show ((mxK 2 : Nat) : Int) = 3 from rfl]
  by_cases c : φ 104 22 = 3
  · rw [if_pos c, if_pos c, thn_f rfl, thn_f rfl]
  · rw [if_neg c, if_neg c, hn, Int.toNat_natCast]
    unfold holdN
    simp only [thn_as, thn_tt, nmsF, show NUt 2 = 3 from rfl]
    rfl
theorem rowR_judge {φ : IT} (hn : φ 104 24 = (n : Int)) : thn (judgF φ) lnE = rowR 4 n φ := by
  unfold judgF rowR hdF
  rw [show φ 104 (20 + 4) = φ 104 24 from rfl, show ((mxK 4 : Nat) : Int) = 4 from rfl]
  by_cases c : φ 104 24 = 4
  · rw [if_pos c, if_pos c, thn_f rfl, thn_f rfl]
  · rw [if_neg c, if_neg c, hn, Int.toNat_natCast]
    unfold judgN
    simp only [thn_as, thn_tt, nmsF, show NUt 4 = 2 from rfl]
    rfl
end CROWG

