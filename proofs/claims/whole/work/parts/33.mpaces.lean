/-- where the least comes from -/
theorem bstep_spec {T : TT} {c : CC} {hc q : Int} {k i : Nat} {v : Nat → Int} : ∀ (n p : Nat) (x : Int × Int), 1 ≤ p → p + n ≤ 10 → bstep T c hc q k i v n p x = x ∨ ∃ p' : Nat, 1 ≤ p' ∧ p' ≤ 9 ∧ alw k q p' ∧ (tq T c hc k p' i).2.2.1 ≠ 0 ∧ v (nsp T c hc k p' i) ≠ 99999 ∧ bstep T c hc q k i v n p x = ((tq T c hc k p' i).1 + v (nsp T c hc k p' i), (p' : Int))
  | 0, p, x, _, _ => Or.inl rfl
  | n + 1, p, x, hp, hn => by
    rw [bstep]
    split
    · rename_i hcnd
      rcases bstep_spec (T := T) (c := c) (hc := hc) (q := q) (k := k) (i := i) (v := v) n (p + 1) ((tq T c hc k p i).1 + v (nsp T c hc k p i), (p : Int)) (by omega) (by omega) with h | h
      · exact Or.inr ⟨p, by omega, by omega, hcnd.1, hcnd.2.1, hcnd.2.2.1, h⟩
      · exact Or.inr h
    · exact bstep_spec n (p + 1) x (by omega) (by omega)
theorem vst_spec {T : TT} {c : CC} {hc q : Int} {n k i : Nat} (h : (vst T c hc q (n + 1) k i).1 ≠ 99999) : ∃ p : Nat, 1 ≤ p ∧ p ≤ 9 ∧ alw k q p ∧ (tq T c hc k p i).2.2.1 ≠ 0 ∧ (vst T c hc q n (k + 1) (nsp T c hc k p i)).1 ≠ 99999 ∧ vst T c hc q (n + 1) k i = ((tq T c hc k p i).1 + (vst T c hc q n (k + 1) (nsp T c hc k p i)).1, (p : Int)) := by
  rw [vst] at h ⊢
  rcases bstep_spec (T := T) (c := c) (hc := hc) (q := q) (k := k) (i := i) (v := fun j => (vst T c hc q n (k + 1) j).1) 9 1 (99999, 0) (by omega) (by omega) with e | ⟨p, a1, a2, a3, a4, a5, a6⟩
  · rw [e] at h; exact absurd rfl h
  · exact ⟨p, a1, a2, a3, a4, a5, a6⟩
/-- the spots along the best way -/
def pth (T : TT) (c : CC) (hc q : Int) (st : Nat) : Nat → Nat
  | 0 => st
  | i + 1 => nsp T c hc i (vst T c hc q (nLa T - i) i (pth T c hc q st i)).2.toNat (pth T c hc q st i)
theorem pth_ok {T : TT} (hk : TOK T) {c : CC} (hcc : CR c) {h : Nat} (hh : h < nHo T) {q : Int} {st : Nat} (hst : st < 2501) (h0 : (vst T c (T 117 h) q (nLa T) 0 st).1 ≠ 99999) {f : IT} (hB : BF T c (T 117 h) q f st) : ∀ i, i ≤ nLa T → pth T c (T 117 h) q st i < 2501 ∧ (vst T c (T 117 h) q (nLa T - i) i (pth T c (T 117 h) q st i)).1 ≠ 99999 ∧ (i < nLa T → f 139 (2501 * i + pth T c (T 117 h) q st i) = 1)
  | 0, _ => ⟨hst, h0, fun _ => by rw [Nat.mul_zero, Nat.zero_add]; exact hB.2.1⟩
  | i + 1, hi => by
    obtain ⟨a1, a2, a3⟩ := pth_ok hk hcc hh hst h0 hB i (by omega)
    have e : nLa T - i = (nLa T - (i + 1)) + 1 := by omega
    rw [e] at a2
    obtain ⟨p, p1, p2, p3, p4, p5, p6⟩ := vst_spec a2
    have ep : pth T c (T 117 h) q st (i + 1) = nsp T c (T 117 h) i p (pth T c (T 117 h) q st i) := by
      rw [pth, e, p6]
      simp
    have tr := tq_rng hk hcc (k := i) (by omega) hh (p := p) (by omega) a1
    rw [ep]
    exact ⟨tr.2.2.2, p5, fun _ => hB.1 i _ a1 (by omega) (a3 (by omega)) p p1 (by omega) p3 p4⟩
theorem w_paces {T : TT} {Q : QT} {ρ : RT} {f0 : IT} {g0 : JT} (hρ : Fx ρ) (hk : TOK T) {c : CC} (hcc : CR c) {h kk : Nat} (hh : h < nHo T) (hkk : kk < nLa T) {st : Nat} (hst : st < 2501) (h0 : (vst T c (T 117 h) 0 (nLa T) 0 st).1 ≠ 99999) (hB0 : BF T c (T 117 h) 0 f0 st) (hM0 : MC c f0) (hT0 : MT T f0) {am : Int}
    (hQ : ∀ (f : IT) (g : JT), KS f0 f → KG g0 g → Q (some (.int (iz (vst T c (T 117 h) 0 (nLa T - kk) kk (pth T c (T 117 h) 0 st kk)).2))) ρ f g)
    (i : Nat) (hi : i ≤ kk) (w l : Nat) (hl : l ≤ 40) (hwl : pth T c (T 117 h) 0 st i = 41 * w + l) (f : IT) (g : JT) (hf : KS f0 f) (hg : KG g0 g) :
    V_X12_paces Q 65 [.ref 104, .int (iz am), .int (iz (h : Int)), .int (iz (kk : Int)), .int (iz (w : Int)), .int (iz (l : Int)), .int (iz (i : Int))] [] ρ f g := by
  have h6 := hk.la
  obtain ⟨a1, a2, a3⟩ := pth_ok hk hcc hh hst h0 hB0 i (by omega)
  have e : nLa T - i = (nLa T - (i + 1)) + 1 := by omega
  have a2' := a2
  rw [e] at a2'
  obtain ⟨p, p1, p2, p3, p4, p5, p6⟩ := vst_spec a2'
  rw [← e] at p6
  have hbp : f 141 (2501 * i + (41 * w + l)) = (p : Int) := by
    have := (hB0.2.2 i _ a1 (by omega) a3).2 a2 (by rw [p6]; simp only; omega)
    rw [p6, hwl] at this
    rw [hf 141 _ (by omega), this]
  have ep : pth T c (T 117 h) 0 st (i + 1) = nsp T c (T 117 h) i p (pth T c (T 117 h) 0 st i) := by
    rw [pth, p6]
    simp
  have tr := tq_rng hk hcc (k := i) (by omega) hh (p := p) (by omega) a1
  rw [hwl] at a1 p4 ep tr
  have etq : tq T c (T 117 h) i p (41 * w + l) = th3 T c (T 117 h) i (p : Int) (w : Int) (l : Int) := by
    unfold tq
    rw [show (41 * w + l) / 41 = w by omega, show (41 * w + l) % 41 = l by omega]
  have hT := hf.mt hT0
  refine V_il6 dX12_paces_65 ?_
  refine V_il3n dX12_paces_67 ?_
  refine V_icmp_ge (tgt := 115) dX12_paces_68 rfl (by first | assumption | (unfold ri at *; omega)) (by first | assumption | (unfold ri at *; omega)) (fun b68 => ?_) (fun b68 => ?_)
  · have ei : i = kk := by omega
    subst ei
    have hq := hQ f g hf hg
    rw [p6] at hq
    refine V_al0n dX12_paces_115 ?_
    refine V_getR kk104 (by decide) fl_X12_124 (fx_104_86 hρ) dX12_paces_116 ?_
    refine V_il3n dX12_paces_119 ?_
    refine V_il4 dX12_paces_120 ?_
    refine V_il5 dX12_paces_122 ?_
    refine V_callS (as := [_, _, _]) ml_X12_517 sm_X12_spot dX12_paces_124 rfl rfl (by decide) (by decide) (Nat.le_of_ble_eq_true rfl) (by decide) (by decide) rfl (c_spot) ?_
    refine pq4 ?_
    refine V_iald (k := 2501 * i + (41 * w + l)) kk141 (by decide) (by first | rfl | omega) (by omega) (by first | decide | assumption | omega) hbp dX12_paces_127 ?_
    exact V_ireturn rfl hq dX12_paces_128
  · refine V_al0n dX12_paces_71 ?_
    refine V_il6 dX12_paces_72 ?_
    refine V_il2n dX12_paces_74 ?_
    refine V_al0n dX12_paces_75 ?_
    refine V_getR kk104 (by decide) fl_X12_124 (fx_104_86 hρ) dX12_paces_76 ?_
    refine V_il6 dX12_paces_79 ?_
    refine V_il4 dX12_paces_81 ?_
    refine V_il5 dX12_paces_83 ?_
    refine V_callS (as := [_, _, _]) ml_X12_517 sm_X12_spot dX12_paces_85 rfl rfl (by decide) (by decide) (Nat.le_of_ble_eq_true rfl) (by decide) (by decide) rfl (c_spot) ?_
    refine pq4 ?_
    refine V_iald (k := 2501 * i + (41 * w + l)) kk141 (by decide) (by first | rfl | omega) (by omega) (by first | decide | assumption | omega) hbp dX12_paces_88 ?_
    refine V_il4 dX12_paces_89 ?_
    refine V_il5 dX12_paces_91 ?_
    refine V_callV (as := [_, _, _, _, _]) ml_X12_521 im_X12_through se_X12_through kk104 (by decide) (by decide) dX12_paces_93 rfl rfl (by decide) (by decide) (Nat.le_of_ble_eq_true rfl) (by decide) (by decide) rfl (c_through hρ hT hk (k := i) (by omega) hh hcc (hf.mc hM0) (by omega) (by omega) (by omega)) ?_
    rintro r93 ρ93 f93 g93 ⟨bb, rfl, s93_0, ks, kg, hb1, hb2⟩
    obtain rfl := s93_0.symm
    have hbt : bb = true := hb1.mpr (by rw [← etq]; exact p4)
    have t9 := hb2 hbt
    rw [← etq] at t9
    obtain ⟨t1, t2, t3⟩ := t9
    refine V_pop dX12_paces_96 rfl ?_
    refine V_al0n dX12_paces_97 ?_
    refine V_getI kk104 (by decide) fl_X12_417 (t2.trans (by omega : _ = (((tq T c (T 117 h) i p (41 * w + l)).2.1.toNat : Nat) : Int))) dX12_paces_98 ?_
    refine V_is4 dX12_paces_101 (by decide) rfl ?_
    refine V_al0n dX12_paces_103 ?_
    refine V_getI kk104 (by decide) fl_X12_420 (t3.trans (by omega : _ = (((tq T c (T 117 h) i p (41 * w + l)).2.2.1.toNat : Nat) : Int))) dX12_paces_104 ?_
    refine V_is5 dX12_paces_107 (by decide) rfl ?_
    refine V_inc6 dX12_paces_109 (by decide) rfl ?_
    refine V_goto (tgt := 65) dX12_paces_112 rfl ?_
    exact w_paces hρ hk hcc hh hkk hst h0 hB0 hM0 hT0 hQ (i + 1) (by omega) _ _ (by omega) (by rw [ep]; unfold nsp; omega) f93 g93 (hf.tr ks) (hg.tr kg)
termination_by kk - i
def aPaces (T : TT) (ra : Bool) (sk m h k : Int) : Int := if (okM T m && okH T h && okL T k) = true then (if (bst T ra sk m.toNat h.toNat 0).1 = 99999 then -2 else (vst T (c0 T ra sk m.toNat) (T 117 h.toNat) 0 (nLa T - k.toNat) k.toNat (pth T (c0 T ra sk m.toNat) (T 117 h.toNat) 0 (41 * (T 113 m.toNat).toNat + (T 114 m.toNat).toNat) k.toNat)).2) else -1
theorem c_mpaces {T : TT} {ρ : RT} {f : IT} {g : JT} (hρ : Fx ρ) (hT : MT T f) (hk : TOK T) {sk : Int} {ra : Bool} (hs : f 104 67 = sk) (hsk : 0 ≤ sk ∧ sk ≤ 30) (hr : f 104 68 = bz ra) {m h k : Int} (rm : ri m) (rh : ri h) (rk : ri k) :
    C_X12_paces [.ref 104, .int (iz m), .int (iz h), .int (iz k)] ρ f g (fun r ρ' f' g' => r = some (.int (iz (aPaces T ra sk m h k))) ∧ ρ' = ρ ∧ KM f f' ∧ KM g g') := by
  have h6 := hk.la
  have h5 := hk.me
  have h3 := hk.ho
  have hT1 : MT T (u2 f 104 2 0) := hT.km (KM.u2 rfl KM.rf)
  refine Ct.ofV (by decide) rfl (Nat.le_of_ble_eq_true rfl) ?_
  refine V_al0n dX12_paces_0 ?_
  refine V_iconst dX12_paces_1 ?_
  refine V_putI kk104 (by decide) fl_X12_154 rfl dX12_paces_2 ?_
  refine V_al0n dX12_paces_5 ?_
  refine V_il1n dX12_paces_6 ?_
  refine V_callV (as := [_]) ml_X12_462 im_X12_isMan se_X12_isMan kk104 (by decide) (by decide) dX12_paces_7 rfl rfl (by decide) (by decide) (Nat.le_of_ble_eq_true rfl) (by decide) (by decide) rfl (c_isMan rm ((hT1 104 13 rfl).trans h5.1) (by unfold ri; omega)) ?_
  refine pq4 ?_
  refine V_bt (tgt := 29) dX12_paces_10 rfl (fun b10 => ?_) (fun b10 => ?_)
  · refine V_iconst dX12_paces_29 ?_
    exact V_ireturn rfl ⟨by unfold aPaces okM okH okL; simp only [*]; simp, rfl, KM.u2 rfl KM.rf, KM.rf⟩ dX12_paces_30
  · refine V_al0n dX12_paces_13 ?_
    refine V_il2n dX12_paces_14 ?_
    refine V_callV (as := [_]) ml_X12_514 im_X12_isHold se_X12_isHold kk104 (by decide) (by decide) dX12_paces_15 rfl rfl (by decide) (by decide) (Nat.le_of_ble_eq_true rfl) (by decide) (by decide) rfl (c_isHold rh ((hT1 104 14 rfl).trans h3.1) (by unfold ri; omega)) ?_
    refine pq4 ?_
    refine V_bt (tgt := 29) dX12_paces_18 rfl (fun b18 => ?_) (fun b18 => ?_)
    · refine V_iconst dX12_paces_29 ?_
      exact V_ireturn rfl ⟨by unfold aPaces okM okH okL; simp only [*]; simp, rfl, KM.u2 rfl KM.rf, KM.rf⟩ dX12_paces_30
    · refine V_al0n dX12_paces_21 ?_
      refine V_il3n dX12_paces_22 ?_
      refine V_callV (as := [_]) ml_X12_450 im_X12_isLane se_X12_isLane kk104 (by decide) (by decide) dX12_paces_23 rfl rfl (by decide) (by decide) (Nat.le_of_ble_eq_true rfl) (by decide) (by decide) rfl (c_isLane rk ((hT1 104 12 rfl).trans h6.1) (by unfold ri; omega)) ?_
      refine pq4 ?_
      refine V_bf (tgt := 31) dX12_paces_26 rfl (fun b26 => ?_) (fun b26 => ?_)
      · have c1 := b10
        have c2 := b18
        have c3 := b26
        simp only [decide_eq_true_eq] at c1 c2 c3
        obtain ⟨mN, rfl⟩ : ∃ n : Nat, m = n := ⟨m.toNat, by omega⟩
        obtain ⟨hN, rfl⟩ : ∃ n : Nat, h = n := ⟨h.toNat, by omega⟩
        obtain ⟨kN, rfl⟩ : ∃ n : Nat, k = n := ⟨k.toNat, by omega⟩
        obtain ⟨k1, k2, k3⟩ := c0_ok hk (m := mN) (by omega) (ra := ra) hsk
        have hma := hk.man (k := mN) (by omega)
        have br := bst_rng hk (ra := ra) hsk (m := mN) (h := hN) (by omega) (by omega) 0
        have ea : aPaces T ra sk (mN : Int) (hN : Int) (kN : Int) = (if (bst T ra sk mN hN 0).1 = 99999 then -2 else (vst T (c0 T ra sk mN) (T 117 hN) 0 (nLa T - kN) kN (pth T (c0 T ra sk mN) (T 117 hN) 0 (41 * (T 113 mN).toNat + (T 114 mN).toNat) kN)).2) := by unfold aPaces okM okH okL; simp only [Int.toNat_natCast, b10, b18, b26]; simp
        refine V_al0n dX12_paces_31 ?_
        refine V_il1n dX12_paces_32 ?_
        refine V_il2n dX12_paces_33 ?_
        refine V_iconst dX12_paces_34 ?_
        refine V_callV (as := [_, _, _]) ml_X12_534 im_X12_bestOf se_X12_bestOf kk104 (by decide) (by decide) dX12_paces_35 rfl rfl (by decide) (by decide) (Nat.le_of_ble_eq_true rfl) (by decide) (by decide) rfl (c_bestOf hρ hT1 hk (ra := ra) (u2_n (by omega) hs) hsk (u2_n (by omega) hr) (m := mN) (h := hN) (by omega) (by omega) (q := 0) (by omega)) ?_
        rintro r35 ρ35 f35 g35 ⟨rfl, s35_0, km, kg, hM, hB⟩
        obtain rfl := s35_0.symm
        refine V_ldc (a := 99999) kc_X12_192 rfl dX12_paces_38 ?_
        refine V_icmp_ne (tgt := 46) dX12_paces_40 rfl (by first | assumption | (unfold ri at *; omega)) (by first | assumption | (unfold ri at *; omega)) (fun b40 => ?_) (fun b40 => ?_)
        · refine V_al0n dX12_paces_46 ?_
          refine V_getR kk104 (by decide) fl_X12_39 (fx_104_36 hρ) dX12_paces_47 ?_
          refine V_il1n dX12_paces_50 ?_
          refine V_iald (k := mN) kk113 (by decide) (by first | rfl | omega) (by omega) (by first | decide | assumption | omega) (((hT1.km km).at rfl (by omega : mN < 5)).trans (by omega : _ = (((T 113 mN).toNat : Nat) : Int))) dX12_paces_51 ?_
          refine V_is4 dX12_paces_52 (by decide) rfl ?_
          refine V_al0n dX12_paces_54 ?_
          refine V_getR kk104 (by decide) fl_X12_42 (fx_104_37 hρ) dX12_paces_55 ?_
          refine V_il1n dX12_paces_58 ?_
          refine V_iald (k := mN) kk114 (by decide) (by first | rfl | omega) (by omega) (by first | decide | assumption | omega) (((hT1.km km).at rfl (by omega : mN < 5)).trans (by omega : _ = (((T 114 mN).toNat : Nat) : Int))) dX12_paces_59 ?_
          refine V_is5 dX12_paces_60 (by decide) rfl ?_
          refine V_iconst dX12_paces_62 ?_
          refine V_is6 dX12_paces_63 (by decide) rfl ?_
          exact w_paces hρ hk k1 (h := hN) (kk := kN) (by omega) (by omega) (st := 41 * (T 113 mN).toNat + (T 114 mN).toNat) (by omega) b40 hB hM (hT1.km km) (fun f' g' a1 a2 => ⟨by rw [ea, if_neg b40], rfl, (KM.u2 (x := 0) rfl KM.rf).tr (km.tr a1.km), kg.tr a2.km⟩) 0 (by omega) _ _ (by omega) rfl _ _ KS.rf KG.rf
        · refine V_bipush dX12_paces_43 rfl ?_
          exact V_ireturn rfl ⟨by rw [ea, if_pos b40], rfl, (KM.u2 (x := 0) rfl KM.rf).tr km, kg⟩ dX12_paces_45
      · refine V_iconst dX12_paces_29 ?_
        exact V_ireturn rfl ⟨by unfold aPaces okM okH okL; simp only [*]; simp, rfl, KM.u2 rfl KM.rf, KM.rf⟩ dX12_paces_30

