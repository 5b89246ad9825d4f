/-- the pace that he goes at -/
def goP (wi pa : Int) : Int := if wi = 0 then 1 else pa
def sTi (T : TT) (k : Nat) (fl ra : Bool) (sk wt pa wi le : Int) : Int := bl T (nms T k fl ra sk wt wi le (goP wi pa)) 0 (10 - goP wi pa) 1 99
def sCo (T : TT) (k : Nat) (fl ra : Bool) (sk wt pa wi le : Int) : Int := bl T (nms T k fl ra sk wt wi le (goP wi pa)) 1 (goP wi pa + (if fl = true then 0 else T 109 k) - 4) (-20) 20
def sAc (T : TT) (k : Nat) (fl ra : Bool) (sk wt pa wi le : Int) : Int := bl T (nms T k fl ra sk wt wi le (goP wi pa)) 2 0 0 20
def sWi (T : TT) (k : Nat) (fl ra : Bool) (sk wt top hc pa wi le : Int) : Int := if wi - (sCo T k fl ra sk wt pa wi le + hc) < 0 then 0 else if top < wi - (sCo T k fl ra sk wt pa wi le + hc) then top else wi - (sCo T k fl ra sk wt pa wi le + hc)
def sLe (T : TT) (k : Nat) (fl ra : Bool) (sk wt pa wi le : Int) : Int := if le < sAc T k fl ra sk wt pa wi le then 0 else le - sAc T k fl ra sk wt pa wi le
theorem nms_inB {T : TT} (hk : TOK T) {k : Nat} (hl : k < nLa T) {fl ra : Bool} {sk wt wi le pa : Int} (r1 : 0 ≤ sk ∧ sk ≤ 100) (r2 : 0 ≤ wt ∧ wt ≤ 100) (r3 : 0 ≤ wi ∧ wi ≤ 100) (r4 : 0 ≤ le ∧ le ≤ 100) (r5 : 0 ≤ pa ∧ pa ≤ 100) (j : Nat) : inB (nms T k fl ra sk wt wi le pa j) := by
  have := hk.lane hl
  unfold nms
  split
  · unfold inB; omega
  · unfold inB; split <;> omega
  · unfold inB; omega
  · unfold inB; omega
  · unfold inB; omega
  · unfold inB; omega
  · exact bz_inB _
  · exact bz_inB _
  · unfold inB; omega
theorem s_rng {T : TT} (hk : TOK T) {k : Nat} (hl : k < nLa T) {fl ra : Bool} {sk wt wi le pa : Int} (r5 : 1 ≤ pa ∧ pa ≤ 9) : (1 ≤ sTi T k fl ra sk wt pa wi le ∧ sTi T k fl ra sk wt pa wi le ≤ 99) ∧ (-20 ≤ sCo T k fl ra sk wt pa wi le ∧ sCo T k fl ra sk wt pa wi le ≤ 20) ∧ (0 ≤ sAc T k fl ra sk wt pa wi le ∧ sAc T k fl ra sk wt pa wi le ≤ 20) := by
  have := hk.lane hl
  have hp : 1 ≤ goP wi pa ∧ goP wi pa ≤ 9 := by unfold goP; split <;> omega
  exact ⟨bl_rng (by omega) (by omega), bl_rng (by omega) (by split <;> omega), bl_rng (by omega) (by omega)⟩
theorem c_step {T : TT} {ρ : RT} {f : IT} {g : JT} (hρ : Fx ρ) (hT : MT T f) (hk : TOK T) {k h : Nat} (hl : k < nLa T) (hh : h < nHo T) {fl ra : Bool} {sk wt wi le te dn top pa : Int} (h68 : f 104 68 = bz ra) (h72 : f 104 72 = bz fl) (h71 : f 104 71 = sk) (h70 : f 104 70 = wt) (h73 : f 104 73 = top) (h74 : f 104 74 = wi) (h75 : f 104 75 = le) (h76 : f 104 76 = te) (h77 : f 104 77 = dn)
    (q1 : 0 ≤ sk ∧ sk ≤ 30) (q2 : 0 ≤ wt ∧ wt ≤ 30) (q3 : 0 ≤ wi ∧ wi ≤ 60) (q4 : 0 ≤ le ∧ le ≤ 60) (q5 : 1 ≤ pa ∧ pa ≤ 9) (q6 : 0 ≤ top ∧ top ≤ 60) :
    C_X12_step [.ref 104, .int (iz (k : Int)), .int (iz (h : Int)), .int (iz pa)] ρ f g (fun r ρ' f' g' => r = none ∧ ρ' = ρ ∧ f' 104 76 = te + sTi T k fl ra sk wt pa wi le ∧ f' 104 74 = sWi T k fl ra sk wt top (T 117 h) pa wi le ∧ f' 104 75 = sLe T k fl ra sk wt pa wi le ∧ f' 104 77 = dn + 1 ∧ (∀ a k, ¬ (a = 104 ∧ (k = 66 ∨ 74 ≤ k ∧ k ≤ 77)) → f' a k = f a k) ∧ ∀ a, a ≠ 135 → a ≠ 136 → g' a = g a) := by
  have hp6 := hk.la
  have hh6 := hk.ho
  have hla := hk.lane hl
  have hho := hk.hold hh
  obtain ⟨s1, s2, s3⟩ := s_rng hk hl (fl := fl) (ra := ra) (sk := sk) (wt := wt) (wi := wi) (le := le) q5
  have key : ∀ p : Int, p = goP wi pa → V_X12_step (fun r ρ' f' g' => r = none ∧ ρ' = ρ ∧ f' 104 76 = te + sTi T k fl ra sk wt pa wi le ∧ f' 104 74 = sWi T k fl ra sk wt top (T 117 h) pa wi le ∧ f' 104 75 = sLe T k fl ra sk wt pa wi le ∧ f' 104 77 = dn + 1 ∧ (∀ a k, ¬ (a = 104 ∧ (k = 66 ∨ 74 ≤ k ∧ k ≤ 77)) → f' a k = f a k) ∧ ∀ a, a ≠ 135 → a ≠ 136 → g' a = g a) 12 [.ref 104, .int (iz (k : Int)), .int (iz (h : Int)), .int (iz pa), .null, .null, .null, .null] [.int (iz p)] ρ f g := by
    intro p ep
    subst ep
    have hp : 1 ≤ goP wi pa ∧ goP wi pa ≤ 9 := by unfold goP; split <;> omega
    have rs : 0 ≤ (if fl = true then 0 else T 109 k) ∧ (if fl = true then 0 else T 109 k) ≤ 9 := by split <;> omega
    have nb := nms_inB hk hl (fl := fl) (ra := ra) (sk := sk) (wt := wt) (wi := wi) (le := le) (pa := goP wi pa) (by omega) (by omega) (by omega) (by omega) (by omega)
    unfold sWi sLe
    unfold sTi sCo sAc at *
    refine V_is4 dX12_step_12 (by decide) rfl ?_
    refine V_al0n dX12_step_14 ?_
    refine V_il1n dX12_step_15 ?_
    refine V_il4 dX12_step_16 ?_
    refine V_callV (as := [_, _]) ml_X12_433 im_X12_layNames se_X12_layNames kk104 (by decide) (by decide) dX12_step_18 rfl rfl (by decide) (by decide) (Nat.le_of_ble_eq_true rfl) (by decide) (by decide) rfl (c_layNames hρ hT hk hl h68 h72 h71 h70 h74 h75 (by first | assumption | (unfold ri at *; omega)) (by first | assumption | (unfold ri at *; omega)) (by first | assumption | (unfold ri at *; omega)) (by first | assumption | (unfold ri at *; omega)) (by first | assumption | (unfold ri at *; omega))) ?_
    rintro r18 ρ18 f18 g18 ⟨rfl, s18_0, s18_1, n18, e18⟩
    obtain rfl := s18_0.symm
    obtain rfl := s18_1.symm
    refine V_al0n dX12_step_21 ?_
    refine V_iconst dX12_step_22 ?_
    refine V_bipush dX12_step_23 rfl ?_
    refine V_il4 dX12_step_25 ?_
    refine V_isub dX12_step_27 ?_
    refine V_iconst dX12_step_28 ?_
    refine V_bipush dX12_step_29 rfl ?_
    refine V_callV (as := [_, _, _, _]) ml_X12_437 im_X12_boundLaw se_X12_boundLaw kk104 (by decide) (by decide) dX12_step_31 rfl rfl (by decide) (by decide) (Nat.le_of_ble_eq_true rfl) (by decide) (by decide) rfl (c_boundLaw hρ hT hk (w := 0) (by omega) (fun j hj => ⟨n18 j hj, nb j⟩) (by first | assumption | (unfold ri at *; omega)) (by first | assumption | (unfold ri at *; omega)) (by first | assumption | (unfold ri at *; omega))) ?_
    rintro r31 ρ31 f31 g31 ⟨rfl, s31_0, ev31⟩
    obtain rfl := s31_0.symm
    have hT31 : MT T f31 := fun a k ht => (ev31.1 a k (fun q => by have := scM_tx ht; rw [q.1, q.2] at this; cases this)).trans (hT a k ht)
    have n31 : ∀ j, j < 8 → g31 135 j = nms T k fl ra sk wt wi le (goP wi pa) j := fun j hj => by rw [ev31.2 135 (by omega)]; exact n18 j hj
    refine V_is5 dX12_step_34 (by decide) rfl ?_
    refine V_al0n dX12_step_36 ?_
    refine V_iconst dX12_step_37 ?_
    refine V_il4 dX12_step_38 ?_
    refine V_al0n dX12_step_40 ?_
    refine V_il1n dX12_step_41 ?_
    refine V_callV (as := [_]) ml_X12_408 im_X12_slopeOf se_X12_slopeOf kk104 (by decide) (by decide) dX12_step_42 rfl rfl (by decide) (by decide) (Nat.le_of_ble_eq_true rfl) (by decide) (by decide) rfl (c_slopeOf hρ hT31 hk hl ((ev31.1 104 72 (by omega)).trans h72)) ?_
    refine pq4 ?_
    refine V_iadd dX12_step_45 ?_
    refine V_iconst dX12_step_46 ?_
    refine V_isub dX12_step_47 ?_
    refine V_bipush dX12_step_48 rfl ?_
    refine V_bipush dX12_step_50 rfl ?_
    refine V_callV (as := [_, _, _, _]) ml_X12_437 im_X12_boundLaw se_X12_boundLaw kk104 (by decide) (by decide) dX12_step_52 rfl rfl (by decide) (by decide) (Nat.le_of_ble_eq_true rfl) (by decide) (by decide) rfl (c_boundLaw hρ hT31 hk (w := 1) (by omega) (fun j hj => ⟨n31 j hj, nb j⟩) (by first | assumption | (unfold ri at *; omega)) (by first | assumption | (unfold ri at *; omega)) (by first | assumption | (unfold ri at *; omega))) ?_
    rintro r52 ρ52 f52 g52 ⟨rfl, s52_0, ev52⟩
    obtain rfl := s52_0.symm
    have hT52 : MT T f52 := fun a k ht => (ev52.1 a k (fun q => by have := scM_tx ht; rw [q.1, q.2] at this; cases this)).trans (hT31 a k ht)
    have n52 : ∀ j, j < 8 → g52 135 j = nms T k fl ra sk wt wi le (goP wi pa) j := fun j hj => by rw [ev52.2 135 (by omega)]; exact n31 j hj
    refine V_al0n dX12_step_55 ?_
    refine V_getR kk104 (by decide) fl_X12_51 (fx_104_40 hρ) dX12_step_56 ?_
    refine V_il2n dX12_step_59 ?_
    refine V_iald (k := h) kk117 (by decide) (by first | rfl | omega) (by omega) (by first | decide | assumption | omega) (hT52.at rfl (by omega : h < 3)) dX12_step_60 ?_
    refine V_iadd dX12_step_61 ?_
    refine V_is6 dX12_step_62 (by decide) rfl ?_
    refine V_al0n dX12_step_64 ?_
    refine V_iconst dX12_step_65 ?_
    refine V_iconst dX12_step_66 ?_
    refine V_iconst dX12_step_67 ?_
    refine V_bipush dX12_step_68 rfl ?_
    refine V_callV (as := [_, _, _, _]) ml_X12_437 im_X12_boundLaw se_X12_boundLaw kk104 (by decide) (by decide) dX12_step_70 rfl rfl (by decide) (by decide) (Nat.le_of_ble_eq_true rfl) (by decide) (by decide) rfl (c_boundLaw hρ hT52 hk (w := 2) (by omega) (fun j hj => ⟨n52 j hj, nb j⟩) (by first | assumption | (unfold ri at *; omega)) (by first | assumption | (unfold ri at *; omega)) (by first | assumption | (unfold ri at *; omega))) ?_
    rintro r70 ρ70 f70 g70 ⟨rfl, s70_0, ev70⟩
    obtain rfl := s70_0.symm
    refine V_is7 dX12_step_73 (by decide) rfl ?_
    have F : ∀ a k, ¬ (a = 104 ∧ k = 66) → f70 a k = f a k := fun a k q => (ev70.1 a k q).trans ((ev52.1 a k q).trans (ev31.1 a k q))
    refine w_step75 ((F 104 73 (by omega)).trans h73) ((F 104 74 (by omega)).trans h74) ((F 104 75 (by omega)).trans h75) ((F 104 76 (by omega)).trans h76) ((F 104 77 (by omega)).trans h77) (by omega) (by omega) (by omega) (by omega) (by omega) (fun f' e1 e2 e3 e4 e5 => ⟨rfl, rfl, e1, e2, e3, e4, fun a k q => (e5 a k (by omega)).trans (F a k (by omega)), fun a q1 q2 => (ev70.2 a q2).trans ((ev52.2 a q2).trans ((ev31.2 a q2).trans (e18 a q1)))⟩)
  refine Ct.ofV (by decide) rfl (Nat.le_of_ble_eq_true rfl) ?_
  refine V_al0n dX12_step_0 ?_
  refine V_getI kk104 (by decide) fl_X12_417 h74 dX12_step_1 ?_
  refine V_if_ne (tgt := 11) dX12_step_4 rfl (by first | assumption | (unfold ri at *; omega)) (fun b4 => ?_) (fun b4 => ?_)
  · refine V_il3n dX12_step_11 ?_
    exact key _ (by unfold goP; simp [b4])
  · refine V_iconst dX12_step_7 ?_
    refine V_goto (tgt := 12) dX12_step_8 rfl ?_
    exact key _ (by unfold goP; simp [b4])

