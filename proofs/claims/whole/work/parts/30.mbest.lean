theorem w_llC {T : TT} {Q : QT} {ρ : RT} {f0 : IT} {g : JT} (hρ : Fx ρ) (hk : TOK T) (hT : MT T f0) {h : Nat} {q : Int}
    (hX : ∀ (f : IT), KL f0 f → (∀ j, j < 2501 → f 140 (2501 * nLa T + j) = 0) → V_X12_layLeast Q 31 [.ref 104, .int (iz (h : Int)), .int (iz q), .null, .null, .null, .null] [] ρ f g)
    (i : Nat) (hi : i ≤ 2501) (f : IT) (hkl : KL f0 f) (hz : ∀ j, j < i → f 140 (2501 * nLa T + j) = 0) :
    V_X12_layLeast Q 2 [.ref 104, .int (iz (h : Int)), .int (iz q), .int (iz (i : Int)), .null, .null, .null] [] ρ f g := by
  have h6 := hk.la
  have fl : f 104 12 = ((nLa T : Nat) : Int) := ((hkl.mt hT) 104 12 rfl).trans h6.1
  refine V_il3n dX12_layLeast_2 ?_
  refine V_sipush dX12_layLeast_3 rfl ?_
  refine V_icmp_ge (tgt := 31) dX12_layLeast_6 rfl (by first | assumption | (unfold ri at *; omega)) (by first | assumption | (unfold ri at *; omega)) (fun b6 => ?_) (fun b6 => ?_)
  · exact V_weak (by repeat (first | exact wk_n | refine wk_c (Or.inr rfl) ?_ | refine wk_c (Or.inl rfl) ?_)) (hX f hkl (fun j hj => hz j (by omega)))
  · refine V_al0n dX12_layLeast_9 ?_
    refine V_getR kk104 (by decide) fl_X12_121 (fx_104_85 hρ) dX12_layLeast_10 ?_
    refine V_sipush dX12_layLeast_13 rfl ?_
    refine V_al0n dX12_layLeast_16 ?_
    refine V_getI kk104 (by decide) fl_X12_250 fl dX12_layLeast_17 ?_
    refine V_imul dX12_layLeast_20 ?_
    refine V_il3n dX12_layLeast_21 ?_
    refine V_iadd dX12_layLeast_22 ?_
    refine V_iconst dX12_layLeast_23 ?_
    refine V_iast (k := 2501 * nLa T + i) kk140 (by decide) (by first | rfl | omega) (by omega) (by first | decide | assumption | omega) dX12_layLeast_24 ?_
    refine V_inc3 dX12_layLeast_25 (by decide) rfl ?_
    refine V_goto (tgt := 2) dX12_layLeast_28 rfl ?_
    exact w_llC hρ hk hT hX (i + 1) (by omega) _ hkl.u0 (fun j hj => by unfold u2; split; rfl; exact hz j (by omega))
termination_by 2501 - i
/-- what a search leaves in the rows -/
def BF (T : TT) (c : CC) (hc q : Int) (f : IT) (st : Nat) : Prop := DoneR T c hc q (f 139) (nLa T) 0 ∧ f 139 st = 1 ∧ ∀ k i, i < 2501 → k ≤ nLa T → (k < nLa T → f 139 (2501 * k + i) = 1) → At2 f (2501 * k + i) (vst T c hc q (nLa T - k) k i)
theorem c_layLeast {T : TT} {ρ : RT} {f : IT} {g : JT} (hρ : Fx ρ) (hk : TOK T) {h : Nat} (hh : h < nHo T) {c : CC} (hc : CR c) {q : Int} (hq : 0 ≤ q ∧ q ≤ 9) {f0 : IT} {g0 : JT} {st : Nat} (hI : RI T c f0 f g0 g st) (hD : DoneR T c (T 117 h) q (f 139) (nLa T) 0) :
    C_X12_layLeast [.ref 104, .int (iz (h : Int)), .int (iz q)] ρ f g (fun r ρ' f' g' => r = none ∧ ρ' = ρ ∧ KL f f' ∧ KG g g' ∧ BF T c (T 117 h) q f' st) := by
  obtain ⟨hT, hM, hkd, hkg, h01, hst⟩ := hI
  have h6 := hk.la
  refine Ct.ofV (by decide) rfl (Nat.le_of_ble_eq_true rfl) ?_
  refine V_iconst dX12_layLeast_0 ?_
  refine V_is3n dX12_layLeast_1 (by decide) rfl ?_
  refine w_llC hρ hk hT (fun f1 kl hz => ?_) 0 (by omega) f KL.rf (fun j hj => by omega)
  have fl : f1 104 12 = ((nLa T : Nat) : Int) := ((kl.mt hT) 104 12 rfl).trans h6.1
  have row : f1 139 = f 139 := funext fun j => kl 139 j (by omega) (by omega) (by omega)
  refine V_al0n dX12_layLeast_31 ?_
  refine V_getI kk104 (by decide) fl_X12_250 fl dX12_layLeast_32 ?_
  refine V_iconst dX12_layLeast_35 ?_
  refine V_isub dX12_layLeast_36 ?_
  refine V_is3n dX12_layLeast_37 (by decide) rfl ?_
  have last : ∀ k i, i < 2501 → k ≤ nLa T → nLa T ≤ k → At2 f1 (2501 * k + i) (vst T c (T 117 h) q (nLa T - k) k i) := fun k i a1 a2 a3 => by
    have ek : k = nLa T := by omega
    rw [ek, Nat.sub_self]
    exact ⟨hz i a1, fun _ z => absurd rfl z⟩
  refine w_llK hρ hk hh hc hq (f0 := f1) (g0 := g) (fun f' g' a1 a2 => ⟨rfl, rfl, kl.tr a1.2.2.1, a1.2.2.2.1, a1.2.2.2.2.2, ?_, a2⟩) (nLa T) (by omega) f1 g ⟨kl.mt hT, kl.mc hM, KL.rf, KG.rf, by rw [row]; exact h01, by rw [row]; exact hD⟩ (fun k i a1 a2 a3 a4 => last k i a1 a2 (by omega)) (fun e k i a1 a2 a4 => last k i a1 a2 (by omega)) (fun k i a1 a2 a3 a4 => last k i a1 a2 (by split at a3 <;> omega))
  rw [show f' 139 = f 139 from (funext fun j => a1.2.2.1 139 j (by omega) (by omega) (by omega)).trans row]
  exact hst
/-- what a search may change -/
def KB (f f' : IT) : Prop := ∀ a k, ¬ (a = 104 ∧ (k = 66 ∨ 74 ≤ k ∧ k ≤ 77)) → a ≠ 139 → a ≠ 140 → a ≠ 141 → f' a k = f a k
theorem KB.km {f f' : IT} (h : KB f f') : KM f f' := fun a k hs => h a k (fun q => by
  obtain ⟨rfl, q⟩ := q
  unfold scM at hs
  simp at hs
  omega) (fun q => by subst q; cases hs) (fun q => by subst q; cases hs) (fun q => by subst q; cases hs)
theorem KB.tr {f f' f'' : IT} (h : KB f f') (h' : KB f' f'') : KB f f'' := fun a k q r s t => (h' a k q r s t).trans (h a k q r s t)
theorem KB.mc {c : CC} {f f' : IT} (h : KB f f') (hM : MC c f) : MC c f' := ⟨(h 104 72 (by omega) (by omega) (by omega) (by omega)).trans hM.1, (h 104 68 (by omega) (by omega) (by omega) (by omega)).trans hM.2.1, (h 104 71 (by omega) (by omega) (by omega) (by omega)).trans hM.2.2.1, (h 104 70 (by omega) (by omega) (by omega) (by omega)).trans hM.2.2.2.1, (h 104 73 (by omega) (by omega) (by omega) (by omega)).trans hM.2.2.2.2⟩
theorem c_bestFrom {T : TT} {ρ : RT} {f : IT} {g : JT} (hρ : Fx ρ) (hT : MT T f) (hk : TOK T) {h : Nat} (hh : h < nHo T) {c : CC} (hc : CR c) (hM : MC c f) {q : Int} (hq : 0 ≤ q ∧ q ≤ 9) {w l : Nat} (hw : f 104 74 = (w : Int)) (hw6 : w ≤ 60) (hl : f 104 75 = (l : Int)) (hl4 : l ≤ 40) :
    C_X12_bestFrom [.ref 104, .int (iz (h : Int)), .int (iz q)] ρ f g (fun r ρ' f' g' => r = some (.int (iz (vst T c (T 117 h) q (nLa T) 0 (41 * w + l)).1)) ∧ ρ' = ρ ∧ KB f f' ∧ KG g g' ∧ BF T c (T 117 h) q f' (41 * w + l)) := by
  refine Ct.ofV (by decide) rfl (Nat.le_of_ble_eq_true rfl) ?_
  refine V_al0n dX12_bestFrom_0 ?_
  refine V_getI kk104 (by decide) fl_X12_417 hw dX12_bestFrom_1 ?_
  refine V_is3n dX12_bestFrom_4 (by decide) rfl ?_
  refine V_al0n dX12_bestFrom_5 ?_
  refine V_getI kk104 (by decide) fl_X12_420 hl dX12_bestFrom_6 ?_
  refine V_is4 dX12_bestFrom_9 (by decide) rfl ?_
  refine V_al0n dX12_bestFrom_11 ?_
  refine V_il1n dX12_bestFrom_12 ?_
  refine V_il2n dX12_bestFrom_13 ?_
  refine V_callV (as := [_, _]) ml_X12_525 im_X12_layReached se_X12_layReached kk104 (by decide) (by decide) dX12_bestFrom_14 rfl rfl (by decide) (by decide) (Nat.le_of_ble_eq_true rfl) (by decide) (by decide) rfl (c_layReached hρ hT hk hh hc hM hq hw hw6 hl hl4) ?_
  rintro r14 ρ14 f14 g14 ⟨rfl, s14_0, hI, hD⟩
  obtain rfl := s14_0.symm
  refine V_al0n dX12_bestFrom_17 ?_
  refine V_il1n dX12_bestFrom_18 ?_
  refine V_il2n dX12_bestFrom_19 ?_
  refine V_callV (as := [_, _]) ml_X12_528 im_X12_layLeast se_X12_layLeast kk104 (by decide) (by decide) dX12_bestFrom_20 rfl rfl (by decide) (by decide) (Nat.le_of_ble_eq_true rfl) (by decide) (by decide) rfl (c_layLeast hρ hk hh hc hq hI hD) ?_
  rintro r20 ρ20 f20 g20 ⟨rfl, s20_0, kl, kg, hB⟩
  obtain rfl := s20_0.symm
  refine V_al0n dX12_bestFrom_23 ?_
  refine V_getR kk104 (by decide) fl_X12_121 (fx_104_85 hρ) dX12_bestFrom_24 ?_
  refine V_iconst dX12_bestFrom_27 ?_
  refine V_il3n dX12_bestFrom_28 ?_
  refine V_il4 dX12_bestFrom_29 ?_
  refine V_callS (as := [_, _, _]) ml_X12_517 sm_X12_spot dX12_bestFrom_31 rfl rfl (by decide) (by decide) (Nat.le_of_ble_eq_true rfl) (by decide) (by decide) rfl (c_spot) ?_
  refine pq4 ?_
  have h34 : f20 140 (41 * w + l) = (vst T c (T 117 h) q (nLa T) 0 (41 * w + l)).1 := by
    have := (hB.2.2 0 (41 * w + l) (by omega) (by omega) (fun _ => by rw [Nat.mul_zero, Nat.zero_add]; exact hB.2.1)).1
    rw [Nat.mul_zero, Nat.zero_add, Nat.sub_zero] at this
    exact this
  refine V_iald (k := 41 * w + l) kk140 (by decide) (by first | rfl | omega) (by omega) (by first | decide | assumption | omega) h34 dX12_bestFrom_34 ?_
  exact V_ireturn rfl ⟨rfl, rfl, fun a k a1 a2 a3 a4 => (kl a k a1 a3 a4).trans (hI.2.2.1 a k a1 a2), hI.2.2.2.1.tr kg, hB⟩ dX12_bestFrom_35
theorem MS.mc {c : CC} {s : SS} {f : IT} (h : MS c s f) : MC c f := ⟨h.1, h.2.1, h.2.2.1, h.2.2.2.1, h.2.2.2.2.1⟩
def bst (T : TT) (ra : Bool) (sk : Int) (m h : Nat) (q : Int) : Int × Int := vst T (c0 T ra sk m) (T 117 h) q (nLa T) 0 (41 * (T 113 m).toNat + (T 114 m).toNat)
theorem bst_rng {T : TT} (hk : TOK T) {sk : Int} {ra : Bool} (hsk : 0 ≤ sk ∧ sk ≤ 30) {m h : Nat} (hm : m < nMe T) (hh : h < nHo T) (q : Int) : 0 ≤ (bst T ra sk m h q).1 ∧ ((bst T ra sk m h q).1 ≤ 11880 ∨ (bst T ra sk m h q).1 = 99999) := by
  obtain ⟨k1, k2, k3⟩ := c0_ok hk hm (ra := ra) hsk
  have := hk.man hm
  have h6 := hk.la
  have := vst_rng hk k1 hh (q := q) (nLa T) 0 (41 * (T 113 m).toNat + (T 114 m).toNat) (by omega) (by omega)
  unfold bst
  omega
theorem c_bestOf {T : TT} {ρ : RT} {f : IT} {g : JT} (hρ : Fx ρ) (hT : MT T f) (hk : TOK T) {sk : Int} {ra : Bool} (hs : f 104 67 = sk) (hsk : 0 ≤ sk ∧ sk ≤ 30) (hr : f 104 68 = bz ra) {m h : Nat} (hm : m < nMe T) (hh : h < nHo T) {q : Int} (hq : 0 ≤ q ∧ q ≤ 9) :
    C_X12_bestOf [.ref 104, .int (iz (m : Int)), .int (iz (h : Int)), .int (iz q)] ρ f g (fun r ρ' f' g' => r = some (.int (iz (bst T ra sk m h q).1)) ∧ ρ' = ρ ∧ KM f f' ∧ KM g g' ∧ MC (c0 T ra sk m) f' ∧ BF T (c0 T ra sk m) (T 117 h) q f' (41 * (T 113 m).toNat + (T 114 m).toNat)) := by
  obtain ⟨k1, k2, k3⟩ := c0_ok hk hm (ra := ra) hsk
  have hma := hk.man hm
  refine Ct.ofV (by decide) rfl (Nat.le_of_ble_eq_true rfl) ?_
  refine V_al0n dX12_bestOf_0 ?_
  refine V_il1n dX12_bestOf_1 ?_
  refine V_callV (as := [_]) ml_X12_467 im_X12_begins se_X12_begins kk104 (by decide) (by decide) dX12_bestOf_2 rfl rfl (by decide) (by decide) (Nat.le_of_ble_eq_true rfl) (by decide) (by decide) rfl (c_begins1 hρ hT hk hm (ra := ra) hs hr) ?_
  rintro r2 ρ2 f2 g2 ⟨rfl, s2_0, hM, km, hT2, kb, s2_1⟩
  obtain rfl := s2_0.symm
  obtain rfl := s2_1.symm
  refine V_al0n dX12_bestOf_5 ?_
  refine V_il2n dX12_bestOf_6 ?_
  refine V_il3n dX12_bestOf_7 ?_
  refine V_callV (as := [_, _]) ml_X12_531 im_X12_bestFrom se_X12_bestFrom kk104 (by decide) (by decide) dX12_bestOf_8 rfl rfl (by decide) (by decide) (Nat.le_of_ble_eq_true rfl) (by decide) (by decide) rfl (c_bestFrom hρ hT2 hk hh k1 hM.mc hq (w := (T 113 m).toNat) (l := (T 114 m).toNat) (hM.2.2.2.2.2.2.1.trans (by show T 113 m = _; omega)) (by omega) (hM.2.2.2.2.2.2.2.1.trans (by show T 114 m = _; omega)) (by omega)) ?_
  rintro r8 ρ8 f8 g8 ⟨rfl, s8_0, kb2, kg, hB⟩
  obtain rfl := s8_0.symm
  exact V_ireturn rfl ⟨rfl, rfl, km.tr kb2.km, kg.km, kb2.mc hM.mc, hB⟩ dX12_bestOf_11
def aBest (T : TT) (ra : Bool) (sk m h : Int) : Int := if (okM T m && okH T h) = true then (if (bst T ra sk m.toNat h.toNat 0).1 = 99999 then -2 else (bst T ra sk m.toNat h.toNat 0).1) else -1
theorem c_mbest {T : TT} {ρ : RT} {f : IT} {g : JT} (hρ : Fx ρ) (hT : MT T f) (hk : TOK T) {sk : Int} {ra : Bool} (hs : f 104 67 = sk) (hsk : 0 ≤ sk ∧ sk ≤ 30) (hr : f 104 68 = bz ra) {m h : Int} (rm : ri m) (rh : ri h) :
    C_X12_best [.ref 104, .int (iz m), .int (iz h)] ρ f g (fun r ρ' f' g' => r = some (.int (iz (aBest T ra sk m h))) ∧ ρ' = ρ ∧ KM f f' ∧ KM g g') := by
  have h5 := hk.me
  have h3 := hk.ho
  have hT1 : MT T (u2 f 104 2 0) := hT.km (KM.u2 rfl KM.rf)
  refine Ct.ofV (by decide) rfl (Nat.le_of_ble_eq_true rfl) ?_
  refine V_al0n dX12_best_0 ?_
  refine V_iconst dX12_best_1 ?_
  refine V_putI kk104 (by decide) fl_X12_154 rfl dX12_best_2 ?_
  refine V_al0n dX12_best_5 ?_
  refine V_il1n dX12_best_6 ?_
  refine V_callV (as := [_]) ml_X12_462 im_X12_isMan se_X12_isMan kk104 (by decide) (by decide) dX12_best_7 rfl rfl (by decide) (by decide) (Nat.le_of_ble_eq_true rfl) (by decide) (by decide) rfl (c_isMan rm ((hT1 104 13 rfl).trans h5.1) (by unfold ri; omega)) ?_
  refine pq4 ?_
  refine V_bt (tgt := 34) dX12_best_10 rfl (fun b10 => ?_) (fun b10 => ?_)
  · refine V_iconst dX12_best_34 ?_
    exact V_ireturn rfl (by first | exact ⟨by rw [ea], rfl, (KM.u2 (x := 0) rfl KM.rf).tr km, kg⟩ | exact ⟨by unfold aBest okM okH; simp only [*]; simp, rfl, KM.u2 rfl KM.rf, KM.rf⟩) dX12_best_35
  · refine V_al0n dX12_best_13 ?_
    refine V_il2n dX12_best_14 ?_
    refine V_callV (as := [_]) ml_X12_514 im_X12_isHold se_X12_isHold kk104 (by decide) (by decide) dX12_best_15 rfl rfl (by decide) (by decide) (Nat.le_of_ble_eq_true rfl) (by decide) (by decide) rfl (c_isHold rh ((hT1 104 14 rfl).trans h3.1) (by unfold ri; omega)) ?_
    refine pq4 ?_
    refine V_bt (tgt := 34) dX12_best_18 rfl (fun b18 => ?_) (fun b18 => ?_)
    · refine V_iconst dX12_best_34 ?_
      exact V_ireturn rfl (by first | exact ⟨by rw [ea], rfl, (KM.u2 (x := 0) rfl KM.rf).tr km, kg⟩ | exact ⟨by unfold aBest okM okH; simp only [*]; simp, rfl, KM.u2 rfl KM.rf, KM.rf⟩) dX12_best_35
    · have c1 := b10
      have c2 := b18
      simp only [decide_eq_true_eq] at c1 c2
      obtain ⟨mN, rfl⟩ : ∃ n : Nat, m = n := ⟨m.toNat, by omega⟩
      obtain ⟨hN, rfl⟩ : ∃ n : Nat, h = n := ⟨h.toNat, by omega⟩
      have br := bst_rng hk (ra := ra) hsk (m := mN) (h := hN) (by omega) (by omega) 0
      have ea : aBest T ra sk (mN : Int) (hN : Int) = (if (bst T ra sk mN hN 0).1 = 99999 then -2 else (bst T ra sk mN hN 0).1) := by unfold aBest okM okH; simp only [Int.toNat_natCast, b10, b18]; simp
      refine V_al0n dX12_best_21 ?_
      refine V_il1n dX12_best_22 ?_
      refine V_il2n dX12_best_23 ?_
      refine V_iconst dX12_best_24 ?_
      refine V_callV (as := [_, _, _]) ml_X12_534 im_X12_bestOf se_X12_bestOf kk104 (by decide) (by decide) dX12_best_25 rfl rfl (by decide) (by decide) (Nat.le_of_ble_eq_true rfl) (by decide) (by decide) rfl (c_bestOf hρ hT1 hk (ra := ra) (u2_n (by omega) hs) hsk (u2_n (by omega) hr) (m := mN) (h := hN) (by omega) (by omega) (q := 0) (by omega)) ?_
      rintro r25 ρ25 f25 g25 ⟨rfl, s25_0, km, kg, hM, hB⟩
      obtain rfl := s25_0.symm
      refine V_callS (as := [_]) ml_X12_537 sm_X12_told dX12_best_28 rfl rfl (by decide) (by decide) (Nat.le_of_ble_eq_true rfl) (by decide) (by decide) rfl (c_told (by unfold ri; omega)) ?_
      refine pq4 ?_
      refine V_goto (tgt := 35) dX12_best_31 rfl ?_
      exact V_ireturn rfl (by first | exact ⟨by rw [ea], rfl, (KM.u2 (x := 0) rfl KM.rf).tr km, kg⟩ | exact ⟨by unfold aBest okM okH; simp only [*]; simp, rfl, KM.u2 rfl KM.rf, KM.rf⟩) dX12_best_35

