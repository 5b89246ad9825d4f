section CLINE
variable {ρ : RT} {g : JT} {b : Nat}
/-- load and seed of a text being read -/
def LoS (b : Nat) (f φ : IT) : Prop := (φ 104 28 = 1 → f b 2 = φ 104 26) ∧ (φ 104 28 ≠ 1 → f b 2 = -1 ∧ φ 104 26 = 8) ∧ (φ 104 29 = 1 → f b 3 = φ 104 27) ∧ (φ 104 29 ≠ 1 → f b 3 = -1 ∧ φ 104 27 = 0)
theorem LoS.cg {f f' φ φ' : IT} (h : LoS b f φ) (e2 : f' b 2 = f b 2) (e3 : f' b 3 = f b 3) (e : ∀ k, 26 ≤ k → k ≤ 29 → φ' 104 k = φ 104 k) : LoS b f' φ' := by
  unfold LoS at *
  rw [e2, e3, e 26 (by omega) (by omega), e 27 (by omega) (by omega), e 28 (by omega) (by omega), e 29 (by omega) (by omega)]
  exact h
def LnQ (b : Nat) (R : Bool × IT) (f f' : IT) : Prop := LnP b R f f' ∧ (R.1 = true → f' (b + 17) 2 = R.2 104 25 ∧ LoS b f' R.2)
theorem thnE_o {X : Bool × IT} {P : Nat → Nat → Prop} {φ : IT} (h : FP P φ X.2) {a k : Nat} (h1 : ¬ (a = 104 ∧ (k = 4 ∨ k = 5 ∨ 7 ≤ k ∧ k ≤ 11))) (h2 : ¬ P a k) : (thn X lnE).2 a k = φ a k := by
  cases c : X.1 with
  | false => rw [thn_f c]; exact h a k h1 h2
  | true =>
    rw [thn_t c]
    unfold lnE
    split
    · show tkF X.2 a k = _
      rw [tkF_o (by omega)]; exact h a k h1 h2
    · show wrg 1 X.2 a k = _
      unfold wrg
      rw [u2_o (by omega), u2_o (by omega)]; exact h a k h1 h2
theorem rowQ {f f' φ : IT} {R : Bool × IT} (hL : LoS b f φ) (h2 : f (b + 17) 2 = φ 104 25) (h : LnP b R f f') (hk : ∀ k, f' b k = f b k ∧ f' (b + 17) k = f (b + 17) k) (o : ∀ k, 25 ≤ k → k ≤ 29 → R.2 104 k = φ 104 k) : LnQ b R f f' :=
  ⟨h, fun _ => ⟨by rw [(hk 2).2, h2, o 25 (by omega) (by omega)], hL.cg (hk 2).1 (hk 3).1 (fun k z1 z2 => o k (by omega) z2)⟩⟩
theorem namT_cg {T T' : TT} (h : ∀ a, 107 ≤ a → a ≤ 126 → T' a = T a) : ∀ i : Nat, i < 5 → ∀ k, namT T' i k = namT T i k := fun i hi k => by
  rcases (show i = 0 ∨ i = 1 ∨ i = 2 ∨ i = 3 ∨ i = 4 by omega) with rfl | rfl | rfl | rfl | rfl
  · exact congrFun (h 107 (by omega) (by omega)) k
  · exact congrFun (h 112 (by omega) (by omega)) k
  · exact congrFun (h 116 (by omega) (by omega)) k
  · exact congrFun (h 120 (by omega) (by omega)) k
  · exact congrFun (h 124 (by omega) (by omega)) k
theorem CT.cg2 {T T' : TT} {f f' : IT} (h : CT T b f) (hT : ∀ a, 107 ≤ a → a ≤ 132 → T' a = T a) (h4 : ∀ k, 12 ≤ k → k ≤ 17 → T' 104 k = T 104 k) (hf : ∀ a k, b < a → a ≤ b + 24 → f' a k = f a k) : CT T' b f' := by
  obtain ⟨c1, c2, c3, c4, c5, c6, c7⟩ := h
  refine ⟨fun i hi => ?_, fun i k hi hk => ?_, fun i k j hi hk hj => ?_, ?_, fun v hv => ?_, fun i hi => ?_, fun n hn => ?_⟩
  · rw [h4 _ (by omega) (by omega), hf _ _ (by omega) (by omega), hf _ _ (by omega) (by omega), hf _ _ (by omega) (by omega)]; exact c1 i hi
  · rw [h4 _ (by omega) (by omega)] at hk
    rw [hf _ _ (by omega) (by omega), c2 i k hi hk, namT_cg (fun a z1 z2 => hT a z1 (by omega)) i hi]
  · rw [h4 _ (by omega) (by omega)] at hk
    rw [hf _ _ (by omega) (by omega), c3 i k j hi hk hj, tcl_cg (fun a z1 z2 => hT a z1 (by omega))]
  · rw [h4 _ (by omega) (by omega), hf _ _ (by omega) (by omega)]; exact c4
  · rw [hf _ _ (by omega) (by omega), hf _ _ (by omega) (by omega), hT 127 (by omega) (by omega), hT 128 (by omega) (by omega), hT 129 (by omega) (by omega)]; exact c5 v hv
  · rw [h4 _ (by omega) (by omega)] at hi
    rw [hf _ _ (by omega) (by omega), hf _ _ (by omega) (by omega), hT 130 (by omega) (by omega), hT 131 (by omega) (by omega)]; exact c6 i hi
  · rw [hf _ _ (by omega) (by omega), c7 n hn]
    unfold us
    rw [h4 17 (by omega) (by omega), hT 130 (by omega) (by omega), hT 131 (by omega) (by omega)]
theorem lone_o {φ : IT} {s v : Nat} {hi : Int} {a k : Nat} (h : ¬ (a = 104 ∧ (k = 4 ∨ k = 5 ∨ 7 ≤ k ∧ k ≤ 11 ∨ k = s ∨ k = v))) : (thn (loneF s v hi φ) lnE).2 a k = φ a k := by
  refine thnE_o (P := fun a k => a = 104 ∧ (k = s ∨ k = v)) (fun a k z1 z2 => ?_) (by omega) (by omega)
  unfold loneF
  split
  · show wrg 3 φ a k = _
    unfold wrg; rw [u2_o (by omega), u2_o (by omega)]
  · show u2 _ 104 v _ a k = _
    rw [u2_o (fun z => z2 ⟨z.1, Or.inr z.2⟩), numF_o z1, tkF_o (by omega), u2_o (fun z => z2 ⟨z.1, Or.inl z.2⟩)]
theorem lone_s {φ : IT} {s v : Nat} {hi : Int} (hs : s = 28 ∨ s = 29) (hv : v = 26 ∨ v = 27) (h : (thn (loneF s v hi φ) lnE).1 = true) : (thn (loneF s v hi φ) lnE).2 104 s = 1 := by
  have c1 : ¬ φ 104 s = 1 := fun z => by
    have : loneF s v hi φ = (false, wrg 3 φ) := by unfold loneF; rw [if_pos z]
    rw [this, thn_f rfl] at h
    cases h
  have e1 : (loneF s v hi φ).2 104 s = 1 := by
    unfold loneF
    rw [if_neg c1]
    show u2 _ 104 v _ 104 s = 1
    rw [u2_o (by omega), numF_o (by omega), tkF_o (by omega), u2_s]
  cases c : (loneF s v hi φ).1 with
  | false => rw [thn_f c] at h; cases h
  | true =>
    rw [thn_t c]
    unfold lnE
    split
    · show tkF _ 104 s = 1
      rw [tkF_o (by omega)]; exact e1
    · show wrg 1 _ 104 s = 1
      unfold wrg
      rw [u2_o (by omega), u2_o (by omega)]; exact e1
/-- a lone number put where it belongs -/
theorem loneQ {f f1 φ : IT} (hb : b = 5 ∨ b = 30) (hC : CT (rdT φ) b f) (h2 : f (b + 17) 2 = φ 104 25) (hL : LoS b f φ) {s v q : Nat} {hi x : Int} (hsv : (s = 28 ∧ v = 26 ∧ q = 2) ∨ (s = 29 ∧ v = 27 ∧ q = 3)) (hfr : ∀ a k, a ≠ 2 → ¬ (a = 4 ∧ 2 ≤ k) → f1 a k = f a k)
    (ht : (thn (loneF s v hi φ) lnE).1 = true → x = (thn (loneF s v hi φ) lnE).2 104 v ∧ (0 ≤ x ∧ x ≤ 99999) ∧ PRE f1 (thn (loneF s v hi φ) lnE).2) (hf : (thn (loneF s v hi φ) lnE).1 = false → x = -1 ∧ FLm f1 (thn (loneF s v hi φ) lnE).2) : LnQ b (thn (loneF s v hi φ) lnE) f (u2 f1 b q x) := by
  have o : ∀ a k, ¬ (a = 104 ∧ (k = 4 ∨ k = 5 ∨ 7 ≤ k ∧ k ≤ 11 ∨ k = s ∨ k = v)) → (thn (loneF s v hi φ) lnE).2 a k = φ a k := fun a k z => lone_o z
  have s1 := fun h => lone_s (φ := φ) (hi := hi) (show s = 28 ∨ s = 29 by omega) (show v = 26 ∨ v = 27 by omega) h
  generalize thn (loneF s v hi φ) lnE = R at *
  have fo : ∀ a k, ¬ (a = b ∧ k = q) → u2 f1 b q x a k = f1 a k := fun a k z => u2_o z
  refine ⟨⟨fun a k z1 z2 z3 z4 => by rw [fo _ _ (by omega)]; exact hfr a k z1 (by omega), by rw [fo _ _ (by omega)]; exact hfr _ _ (by omega) (by omega), by rw [fo _ _ (by omega)]; exact hfr _ _ (by omega) (by omega), fun h => ?_, fun h => ?_⟩, fun h => ?_⟩
  · obtain ⟨t1, t2, t3⟩ := ht h
    refine ⟨t3.cg (fun k => fo _ _ (by omega)) (fun k => fo _ _ (by omega)) rfl (fun _ _ _ => rfl), hC.cg2 (fun a z1 z2 => funext fun k => ?_) (fun k z1 z2 => ?_) (fun a k z1 z2 => ?_)⟩
    · unfold rdT; rw [if_neg (by omega), if_neg (by omega)]; exact o _ _ (by omega)
    · unfold rdT; rw [if_pos rfl, if_pos rfl]; exact o _ _ (by omega)
    · rw [fo _ _ (by omega)]; exact hfr _ _ (by omega) (by omega)
  · obtain ⟨t1, t2⟩ := hf h
    unfold FLm at t2 ⊢
    rw [fo _ _ (by omega), fo _ _ (by omega)]; exact t2
  · obtain ⟨t1, t2, t3⟩ := ht h
    have e1 := s1 h
    refine ⟨by rw [fo _ _ (by omega), hfr _ _ (by omega) (by omega), h2, o _ _ (by omega)], ?_⟩
    obtain ⟨l1, l2, l3, l4⟩ := hL
    unfold LoS
    rcases hsv with ⟨rfl, rfl, rfl⟩ | ⟨rfl, rfl, rfl⟩
    · refine ⟨fun _ => by rw [u2_s]; exact t1, fun z => absurd e1 z, ?_, ?_⟩
      · rw [fo _ _ (by omega), hfr _ _ (by omega) (by omega), o _ 29 (by omega), o _ 27 (by omega)]; exact l3
      · rw [fo _ _ (by omega), hfr _ _ (by omega) (by omega), o _ 29 (by omega), o _ 27 (by omega)]; exact l4
    · refine ⟨?_, ?_, fun _ => by rw [u2_s]; exact t1, fun z => absurd e1 z⟩
      · rw [fo _ _ (by omega), hfr _ _ (by omega) (by omega), o _ 28 (by omega), o _ 26 (by omega)]; exact l1
      · rw [fo _ _ (by omega), hfr _ _ (by omega) (by omega), o _ 28 (by omega), o _ 26 (by omega)]; exact l2
theorem c_readLine {f φ : IT} (hρ : Fx ρ) (hb : b = 5 ∨ b = 30) (hC : CT (rdT φ) b f) (h2 : f (b + 17) 2 = φ 104 25) (hL : LoS b f φ) (hc : CUR f φ) (hG : Good φ) (hD : RD φ) :
    C_X2_readLine [.ref 2, .ref b] ρ f g (fun r ρ' f' g' => r = some (.int (iz (bz (lnF φ).1))) ∧ ρ' = ρ ∧ LnQ b (lnF φ) f f' ∧ g' = g) := by
  have hK := hG.1
  obtain ⟨q1, q2, -, -⟩ := hc.rr hK
  obtain ⟨v0, v1, v2, v3, v4, v5, v6⟩ := hc.2.2
  have hKK := hK
  obtain ⟨-, k8, k9, k1, -, k5⟩ := hKK
  have r26 := hD.2.2.2.2.2.2.1
  have r27 := hD.2.2.2.2.2.2.2
  have c20 : ∀ i, i < 5 → ∃ n : Nat, φ 104 (20 + i) = (n : Int) := fun i hi => ⟨(φ 104 (20 + i)).toNat, by have := hG.2.cni hi; omega⟩
  have hw : (φ 104 8 = 1 ∧ φ 104 9 ≤ 7 ∧ f 4 6 = φ 104 9 + 16 ∧ 0 ≤ φ 104 9) ∨ ((φ 104 8 ≠ 1 ∨ 7 < φ 104 9) ∧ (f 4 6 < 16 ∨ 23 < f 4 6)) := by
    unfold ckK cwK at v1
    rcases (show φ 104 8 = 0 ∨ φ 104 8 = 1 ∨ φ 104 8 = 2 ∨ φ 104 8 = 3 ∨ φ 104 8 = 4 ∨ φ 104 8 = 5 ∨ φ 104 8 = 6 by omega) with e | e | e | e | e | e | e
    · have := v0 e; omega
    · have hz := (v1 e).2.1; have := k1 e; (repeat' split at hz) <;> omega
    · have := v2 e; omega
    · have := v3 e; omega
    · have := v4 e; omega
    · have := v5 e; omega
    · have := v6 e; omega
  refine Ct.ofV (by decide) rfl (Nat.le_of_ble_eq_true rfl) ?_
  rcases hw with ⟨w1, w2, w3, w4⟩ | ⟨w1, w2⟩
  · have eL : lnF φ = thn (ln0 φ) lnE := by unfold lnF; rw [if_neg (by omega)]
    rw [eL]
    rcases (show φ 104 9 = 0 ∨ φ 104 9 = 1 ∨ φ 104 9 = 2 ∨ φ 104 9 = 3 ∨ φ 104 9 = 4 ∨ φ 104 9 = 5 ∨ φ 104 9 = 6 ∨ φ 104 9 = 7 by omega) with e | e | e | e | e | e | e | e
    · obtain ⟨n, hn⟩ := c20 0 (by omega)
      have hr := c_rowL (g := g) hρ hb hn hC hc hG
      have e0 : ln0 φ = laneF φ := by unfold ln0; rw [if_pos e]
      have ok := laneF_ok hG
      have o := fun k (z1 : 25 ≤ k) (z2 : k ≤ 29) => thnE_o (a := 104) (k := k) ok.2.1 (by omega) (by unfold PL; omega)
      rw [e0, laneR_F hn]
      rw [laneR_F hn] at o
      refine V_al0n dX2_readLine_0 ?_
      refine V_getR kk2 (by decide) fl_X2_42 (fx_2_0 hρ) dX2_readLine_1 ?_
      refine V_getI kk4 (by decide) fl_X2_73 (show f 4 6 = 16 by omega) dX2_readLine_4 ?_
      refine V_tabIn (tgt := 52) (i := 0) dX2_readLine_7 (by first | rfl | omega) (by decide) (by first | decide | assumption | (unfold ri at *; omega)) rfl rfl ?_
      refine V_al0n dX2_readLine_52 ?_
      refine V_al1n dX2_readLine_53 ?_
      refine V_iconst dX2_readLine_54 ?_
      refine V_callV (as := [_, _]) ml_X2_76 im_X2_readRow se_X2_readRow kk2 (by decide) (by decide) dX2_readLine_55 rfl rfl (by decide) (by decide) (Nat.le_of_ble_eq_true rfl) (by decide) (by decide) rfl (hr) ?_
      rintro r55 ρ55 f55 g55 ⟨rfl, s55_0, y1, y2, s55_1⟩
      obtain rfl := s55_0.symm
      obtain rfl := s55_1.symm
      exact V_zreturn rfl (by first | exact Or.inl rfl | exact Or.inr rfl | (unfold bz; split <;> simp)) ⟨rfl, rfl, rowQ hL h2 y1 y2 o, rfl⟩ dX2_readLine_58
    · obtain ⟨n, hn⟩ := c20 1 (by omega)
      have hr := c_rowG (i := 1) (g := g) hρ hb (by omega) hn hC hc hG
      have e0 : ln0 φ = manF φ := by unfold ln0; rw [if_neg (by omega), if_pos e]
      have ok := manF_ok hG
      have o := fun k (z1 : 25 ≤ k) (z2 : k ≤ 29) => thnE_o (a := 104) (k := k) ok.2.1 (by omega) (by unfold Pman; omega)
      rw [e0, rowR_man hn]
      rw [rowR_man hn] at o
      refine V_al0n dX2_readLine_0 ?_
      refine V_getR kk2 (by decide) fl_X2_42 (fx_2_0 hρ) dX2_readLine_1 ?_
      refine V_getI kk4 (by decide) fl_X2_73 (show f 4 6 = 17 by omega) dX2_readLine_4 ?_
      refine V_tabIn (tgt := 59) (i := 1) dX2_readLine_7 (by first | rfl | omega) (by decide) (by first | decide | assumption | (unfold ri at *; omega)) rfl rfl ?_
      refine V_al0n dX2_readLine_59 ?_
      refine V_al1n dX2_readLine_60 ?_
      refine V_iconst dX2_readLine_61 ?_
      refine V_callV (as := [_, _]) ml_X2_76 im_X2_readRow se_X2_readRow kk2 (by decide) (by decide) dX2_readLine_62 rfl rfl (by decide) (by decide) (Nat.le_of_ble_eq_true rfl) (by decide) (by decide) rfl (hr) ?_
      rintro r62 ρ62 f62 g62 ⟨rfl, s62_0, y1, y2, s62_1⟩
      obtain rfl := s62_0.symm
      obtain rfl := s62_1.symm
      exact V_zreturn rfl (by first | exact Or.inl rfl | exact Or.inr rfl | (unfold bz; split <;> simp)) ⟨rfl, rfl, rowQ hL h2 y1 y2 o, rfl⟩ dX2_readLine_65
    · obtain ⟨n, hn⟩ := c20 2 (by omega)
      have hr := c_rowG (i := 2) (g := g) hρ hb (by omega) hn hC hc hG
      have e0 : ln0 φ = holdF φ := by unfold ln0; rw [if_neg (by omega), if_neg (by omega), if_pos e]
      have ok := holdF_ok hG
      have o := fun k (z1 : 25 ≤ k) (z2 : k ≤ 29) => thnE_o (a := 104) (k := k) ok.2.1 (by omega) (by unfold Phold; omega)
      rw [e0, rowR_hold hn]
      rw [rowR_hold hn] at o
      refine V_al0n dX2_readLine_0 ?_
      refine V_getR kk2 (by decide) fl_X2_42 (fx_2_0 hρ) dX2_readLine_1 ?_
      refine V_getI kk4 (by decide) fl_X2_73 (show f 4 6 = 18 by omega) dX2_readLine_4 ?_
      refine V_tabIn (tgt := 66) (i := 2) dX2_readLine_7 (by first | rfl | omega) (by decide) (by first | decide | assumption | (unfold ri at *; omega)) rfl rfl ?_
      refine V_al0n dX2_readLine_66 ?_
      refine V_al1n dX2_readLine_67 ?_
      refine V_iconst dX2_readLine_68 ?_
      refine V_callV (as := [_, _]) ml_X2_76 im_X2_readRow se_X2_readRow kk2 (by decide) (by decide) dX2_readLine_69 rfl rfl (by decide) (by decide) (Nat.le_of_ble_eq_true rfl) (by decide) (by decide) rfl (hr) ?_
      rintro r69 ρ69 f69 g69 ⟨rfl, s69_0, y1, y2, s69_1⟩
      obtain rfl := s69_0.symm
      obtain rfl := s69_1.symm
      exact V_zreturn rfl (by first | exact Or.inl rfl | exact Or.inr rfl | (unfold bz; split <;> simp)) ⟨rfl, rfl, rowQ hL h2 y1 y2 o, rfl⟩ dX2_readLine_72
    · obtain ⟨n, hn⟩ := c20 3 (by omega)
      have hr := c_rowP (g := g) hρ hb hn hC hc hG hD
      have e0 : ln0 φ = planF φ := by unfold ln0; rw [if_neg (by omega), if_neg (by omega), if_neg (by omega), if_pos e]
      have ok := planF_ok hG
      have o := fun k (z1 : 25 ≤ k) (z2 : k ≤ 29) => thnE_o (a := 104) (k := k) ok.2.1 (by omega) (by unfold PP; omega)
      rw [e0, planR_F hn]
      rw [planR_F hn] at o
      refine V_al0n dX2_readLine_0 ?_
      refine V_getR kk2 (by decide) fl_X2_42 (fx_2_0 hρ) dX2_readLine_1 ?_
      refine V_getI kk4 (by decide) fl_X2_73 (show f 4 6 = 19 by omega) dX2_readLine_4 ?_
      refine V_tabIn (tgt := 73) (i := 3) dX2_readLine_7 (by first | rfl | omega) (by decide) (by first | decide | assumption | (unfold ri at *; omega)) rfl rfl ?_
      refine V_al0n dX2_readLine_73 ?_
      refine V_al1n dX2_readLine_74 ?_
      refine V_iconst dX2_readLine_75 ?_
      refine V_callV (as := [_, _]) ml_X2_76 im_X2_readRow se_X2_readRow kk2 (by decide) (by decide) dX2_readLine_76 rfl rfl (by decide) (by decide) (Nat.le_of_ble_eq_true rfl) (by decide) (by decide) rfl (hr) ?_
      rintro r76 ρ76 f76 g76 ⟨rfl, s76_0, y1, y2, s76_1⟩
      obtain rfl := s76_0.symm
      obtain rfl := s76_1.symm
      exact V_zreturn rfl (by first | exact Or.inl rfl | exact Or.inr rfl | (unfold bz; split <;> simp)) ⟨rfl, rfl, rowQ hL h2 y1 y2 o, rfl⟩ dX2_readLine_79
    · obtain ⟨n, hn⟩ := c20 4 (by omega)
      have hr := c_rowG (i := 4) (g := g) hρ hb (by omega) hn hC hc hG
      have e0 : ln0 φ = judgF φ := by unfold ln0; rw [if_neg (by omega), if_neg (by omega), if_neg (by omega), if_neg (by omega), if_pos e]
      have ok := judgF_ok hG
      have o := fun k (z1 : 25 ≤ k) (z2 : k ≤ 29) => thnE_o (a := 104) (k := k) ok.2.1 (by omega) (by unfold Pjudge; omega)
      rw [e0, rowR_judge hn]
      rw [rowR_judge hn] at o
      refine V_al0n dX2_readLine_0 ?_
      refine V_getR kk2 (by decide) fl_X2_42 (fx_2_0 hρ) dX2_readLine_1 ?_
      refine V_getI kk4 (by decide) fl_X2_73 (show f 4 6 = 20 by omega) dX2_readLine_4 ?_
      refine V_tabIn (tgt := 80) (i := 4) dX2_readLine_7 (by first | rfl | omega) (by decide) (by first | decide | assumption | (unfold ri at *; omega)) rfl rfl ?_
      refine V_al0n dX2_readLine_80 ?_
      refine V_al1n dX2_readLine_81 ?_
      refine V_iconst dX2_readLine_82 ?_
      refine V_callV (as := [_, _]) ml_X2_76 im_X2_readRow se_X2_readRow kk2 (by decide) (by decide) dX2_readLine_83 rfl rfl (by decide) (by decide) (Nat.le_of_ble_eq_true rfl) (by decide) (by decide) rfl (hr) ?_
      rintro r83 ρ83 f83 g83 ⟨rfl, s83_0, y1, y2, s83_1⟩
      obtain rfl := s83_0.symm
      obtain rfl := s83_1.symm
      exact V_zreturn rfl (by first | exact Or.inl rfl | exact Or.inr rfl | (unfold bz; split <;> simp)) ⟨rfl, rfl, rowQ hL h2 y1 y2 o, rfl⟩ dX2_readLine_86
    · have e0 : ln0 φ = loneF 28 26 30 φ := by unfold ln0; rw [if_neg (by omega), if_neg (by omega), if_neg (by omega), if_neg (by omega), if_neg (by omega), if_pos e]; rfl
      have hl := c_readLone (g := g) hρ hc hK (s := 28) (v := 26) (t := f b 2) (hi := 30) (Or.inl rfl) (Or.inl rfl) (by unfold ri; by_cases z : φ 104 28 = 1; (have := hL.1 z; omega); (have := hL.2.1 z; omega)) (by omega) ⟨fun z => by have := hL.1 z; omega, fun z => by by_cases y : φ 104 28 = 1; exact y; exact absurd (hL.2.1 y).1 z⟩
      rw [e0]
      refine V_al0n dX2_readLine_0 ?_
      refine V_getR kk2 (by decide) fl_X2_42 (fx_2_0 hρ) dX2_readLine_1 ?_
      refine V_getI kk4 (by decide) fl_X2_73 (show f 4 6 = 21 by omega) dX2_readLine_4 ?_
      refine V_tabIn (tgt := 87) (i := 5) dX2_readLine_7 (by first | rfl | omega) (by decide) (by first | decide | assumption | (unfold ri at *; omega)) rfl rfl ?_
      refine V_al1n dX2_readLine_87 ?_
      refine V_al0n dX2_readLine_88 ?_
      refine V_al1n dX2_readLine_89 ?_
      refine V_getI (kb_0 hb) (kl_0 hb) fl_X2_80 rfl dX2_readLine_90 ?_
      refine V_bipush dX2_readLine_93 rfl ?_
      refine V_callV (as := [_, _]) ml_X2_83 im_X2_readLone se_X2_readLone kk2 (by decide) (by decide) dX2_readLine_95 rfl rfl (by decide) (by decide) (Nat.le_of_ble_eq_true rfl) (by decide) (by decide) rfl (hl) ?_
      rintro r95 ρ95 f95 g95 ⟨x, rfl, s95_0, y1, y2, y3, s95_1⟩
      obtain rfl := s95_0.symm
      obtain rfl := s95_1.symm
      refine V_putI (kb_0 hb) (kl_0 hb) fl_X2_80 rfl dX2_readLine_98 ?_
      refine V_al1n dX2_readLine_101 ?_
      refine V_getI (kb_0 hb) (kl_0 hb) fl_X2_80 u2_s dX2_readLine_102 ?_
      refine V_iconst dX2_readLine_105 ?_
      refine V_icmp_eq (tgt := 113) dX2_readLine_106 rfl (by unfold ri; cases cR : (thn (loneF 28 26 30 φ) lnE).1 with | true => (have := (y2 cR).2.1; omega) | false => (have := (y3 cR).1; omega)) (by unfold ri; omega) (fun b106 => ?_) (fun b106 => ?_)
      · refine V_iconst dX2_readLine_113 ?_
        exact V_zreturn rfl (by first | exact Or.inl rfl | exact Or.inr rfl | (unfold bz; split <;> simp)) (by
  cases cR : (thn (loneF 28 26 30 φ) lnE).1 with
  | true => first | (have := (y2 cR).2.1; exfalso; omega) | exact ⟨rfl, rfl, loneQ hb hC h2 hL (Or.inl ⟨rfl, rfl, rfl⟩) y1 y2 y3, rfl⟩
  | false => first | (have := (y3 cR).1; exfalso; omega) | exact ⟨rfl, rfl, loneQ hb hC h2 hL (Or.inl ⟨rfl, rfl, rfl⟩) y1 y2 y3, rfl⟩) dX2_readLine_114
      · refine V_iconst dX2_readLine_109 ?_
        refine V_goto (tgt := 114) dX2_readLine_110 rfl ?_
        exact V_zreturn rfl (by first | exact Or.inl rfl | exact Or.inr rfl | (unfold bz; split <;> simp)) (by
  cases cR : (thn (loneF 28 26 30 φ) lnE).1 with
  | true => first | (have := (y2 cR).2.1; exfalso; omega) | exact ⟨rfl, rfl, loneQ hb hC h2 hL (Or.inl ⟨rfl, rfl, rfl⟩) y1 y2 y3, rfl⟩
  | false => first | (have := (y3 cR).1; exfalso; omega) | exact ⟨rfl, rfl, loneQ hb hC h2 hL (Or.inl ⟨rfl, rfl, rfl⟩) y1 y2 y3, rfl⟩) dX2_readLine_114
    · have e0 : ln0 φ = loneF 29 27 99999 φ := by unfold ln0; rw [if_neg (by omega), if_neg (by omega), if_neg (by omega), if_neg (by omega), if_neg (by omega), if_neg (by omega), if_pos e]; rfl
      have hl := c_readLone (g := g) hρ hc hK (s := 29) (v := 27) (t := f b 3) (hi := 99999) (Or.inr rfl) (Or.inr rfl) (by unfold ri; by_cases z : φ 104 29 = 1; (have := hL.2.2.1 z; omega); (have := hL.2.2.2 z; omega)) (by omega) ⟨fun z => by have := hL.2.2.1 z; omega, fun z => by by_cases y : φ 104 29 = 1; exact y; exact absurd (hL.2.2.2 y).1 z⟩
      rw [e0]
      refine V_al0n dX2_readLine_0 ?_
      refine V_getR kk2 (by decide) fl_X2_42 (fx_2_0 hρ) dX2_readLine_1 ?_
      refine V_getI kk4 (by decide) fl_X2_73 (show f 4 6 = 22 by omega) dX2_readLine_4 ?_
      refine V_tabIn (tgt := 115) (i := 6) dX2_readLine_7 (by first | rfl | omega) (by decide) (by first | decide | assumption | (unfold ri at *; omega)) rfl rfl ?_
      refine V_al1n dX2_readLine_115 ?_
      refine V_al0n dX2_readLine_116 ?_
      refine V_al1n dX2_readLine_117 ?_
      refine V_getI (kb_0 hb) (kl_0 hb) fl_X2_87 rfl dX2_readLine_118 ?_
      refine V_ldc (a := 99999) kc_X2_90 rfl dX2_readLine_121 ?_
      refine V_callV (as := [_, _]) ml_X2_83 im_X2_readLone se_X2_readLone kk2 (by decide) (by decide) dX2_readLine_123 rfl rfl (by decide) (by decide) (Nat.le_of_ble_eq_true rfl) (by decide) (by decide) rfl (hl) ?_
      rintro r123 ρ123 f123 g123 ⟨x, rfl, s123_0, y1, y2, y3, s123_1⟩
      obtain rfl := s123_0.symm
      obtain rfl := s123_1.symm
      refine V_putI (kb_0 hb) (kl_0 hb) fl_X2_87 rfl dX2_readLine_126 ?_
      refine V_al1n dX2_readLine_129 ?_
      refine V_getI (kb_0 hb) (kl_0 hb) fl_X2_87 u2_s dX2_readLine_130 ?_
      refine V_iconst dX2_readLine_133 ?_
      refine V_icmp_eq (tgt := 141) dX2_readLine_134 rfl (by unfold ri; cases cR : (thn (loneF 29 27 99999 φ) lnE).1 with | true => (have := (y2 cR).2.1; omega) | false => (have := (y3 cR).1; omega)) (by unfold ri; omega) (fun b134 => ?_) (fun b134 => ?_)
      · refine V_iconst dX2_readLine_141 ?_
        exact V_zreturn rfl (by first | exact Or.inl rfl | exact Or.inr rfl | (unfold bz; split <;> simp)) (by
  cases cR : (thn (loneF 29 27 99999 φ) lnE).1 with
  | true => first | (have := (y2 cR).2.1; exfalso; omega) | exact ⟨rfl, rfl, loneQ hb hC h2 hL (Or.inr ⟨rfl, rfl, rfl⟩) y1 y2 y3, rfl⟩
  | false => first | (have := (y3 cR).1; exfalso; omega) | exact ⟨rfl, rfl, loneQ hb hC h2 hL (Or.inr ⟨rfl, rfl, rfl⟩) y1 y2 y3, rfl⟩) dX2_readLine_142
      · refine V_iconst dX2_readLine_137 ?_
        refine V_goto (tgt := 142) dX2_readLine_138 rfl ?_
        exact V_zreturn rfl (by first | exact Or.inl rfl | exact Or.inr rfl | (unfold bz; split <;> simp)) (by
  cases cR : (thn (loneF 29 27 99999 φ) lnE).1 with
  | true => first | (have := (y2 cR).2.1; exfalso; omega) | exact ⟨rfl, rfl, loneQ hb hC h2 hL (Or.inr ⟨rfl, rfl, rfl⟩) y1 y2 y3, rfl⟩
  | false => first | (have := (y3 cR).1; exfalso; omega) | exact ⟨rfl, rfl, loneQ hb hC h2 hL (Or.inr ⟨rfl, rfl, rfl⟩) y1 y2 y3, rfl⟩) dX2_readLine_142
    · have e0 : ln0 φ = lawF φ := by unfold ln0; rw [if_neg (by omega), if_neg (by omega), if_neg (by omega), if_neg (by omega), if_neg (by omega), if_neg (by omega), if_neg (by omega)]
      have hl := c_readLaw (g := g) hρ hb hC h2 hc hG hD
      have ok := lawF_ok hG hD.2.2.2.2.2.1
      have o := fun k (z1 : 26 ≤ k) (z2 : k ≤ 29) => thnE_o (a := 104) (k := k) ok.2.1 (by omega) (by unfold PW; omega)
      rw [e0]
      refine V_al0n dX2_readLine_0 ?_
      refine V_getR kk2 (by decide) fl_X2_42 (fx_2_0 hρ) dX2_readLine_1 ?_
      refine V_getI kk4 (by decide) fl_X2_73 (show f 4 6 = 23 by omega) dX2_readLine_4 ?_
      refine V_tabIn (tgt := 143) (i := 7) dX2_readLine_7 (by first | rfl | omega) (by decide) (by first | decide | assumption | (unfold ri at *; omega)) rfl rfl ?_
      refine V_al0n dX2_readLine_143 ?_
      refine V_al1n dX2_readLine_144 ?_
      refine V_getR (kb_0 hb) (kl_0 hb) fl_X2_91 (fb_0_1 hρ hb) dX2_readLine_145 ?_
      refine V_callV (as := [_]) ml_X2_95 im_X2_readLaw se_X2_readLaw kk2 (by decide) (by decide) dX2_readLine_148 rfl rfl (by decide) (by decide) (Nat.le_of_ble_eq_true rfl) (by decide) (by decide) rfl (hl) ?_
      rintro r148 ρ148 f148 g148 ⟨rfl, s148_0, y1, y2, y3, s148_1⟩
      obtain rfl := s148_0.symm
      obtain rfl := s148_1.symm
      exact V_zreturn rfl (by first | exact Or.inl rfl | exact Or.inr rfl | (unfold bz; split <;> simp)) ⟨rfl, rfl, ⟨y1, fun q => ⟨y3 q, hL.cg (y2 2) (y2 3) o⟩⟩, rfl⟩ dX2_readLine_151
  · have eR : lnF φ = (false, wrg 1 φ) := by unfold lnF; rw [if_pos w1]
    rw [eR]
    refine V_al0n dX2_readLine_0 ?_
    refine V_getR kk2 (by decide) fl_X2_42 (fx_2_0 hρ) dX2_readLine_1 ?_
    refine V_getI kk4 (by decide) fl_X2_73 rfl dX2_readLine_4 ?_
    refine V_tabOut (tgt := 152) dX2_readLine_7 (by omega) (by first | assumption | (unfold ri at *; omega)) rfl ?_
    refine V_al0n dX2_readLine_152 ?_
    refine V_iconst dX2_readLine_153 ?_
    refine V_callV (as := [_]) ml_X2_68 im_X2_refuse se_X2_refuse kk2 (by decide) (by decide) dX2_readLine_154 rfl rfl (by decide) (by decide) (Nat.le_of_ble_eq_true rfl) (by decide) (by decide) rfl (c_refuse hρ) ?_
    refine pq4 ?_
    exact V_zreturn rfl (by first | exact Or.inl rfl | exact Or.inr rfl | (unfold bz; split <;> simp)) ⟨rfl, rfl, ⟨⟨fun a k z1 z2 z3 z4 => rfF_o z1, rfF_o (by omega), rfF_o (by omega), (fun q => by (cases q)), fun _ => rfF_fl hc.2.1.1⟩, (fun q => by (cases q))⟩, rfl⟩ dX2_readLine_157
end CLINE

