theorem c_lawOf {T : TT} {ρ : RT} {f : IT} {g : JT} (hρ : Fx ρ) (hT : MT T f) (hk : TOK T) {w : Nat} (hw : w < 8) (ht : T 127 w = 1) {nm : Nat → Int} (hn : ∀ k, k < 8 → g 135 k = nm k ∧ inB (nm k)) :
    C_X12_lawOf [.ref 104, .int (iz (w : Int))] ρ f g (fun r ρ' f' g' => ∃ v, r = some (.long (lz v)) ∧ inB v ∧ v = (lawv T nm w).getD 0 ∧ ρ' = ρ ∧ f' = u2 f 104 66 (bz (lawv T nm w).isNone) ∧ ∀ a, a ≠ 136 → g' a = g a) := by
  obtain ⟨lo, hi, h1, h2, h3, h4, h5⟩ := hk.kn hw ht
  have fl : f 128 w = (lo : Int) := (hT.at rfl hw).trans h1
  have hR := evs_congr (nm := nm) (hi - lo) lo (g 136) (fun _ => 0) (fun j e1 e2 => h5 j e1 (by omega)) (fun j e1 e2 => by omega)
  rw [show lo + (hi - lo) = hi by omega] at hR
  have hlv : lawv T nm w = (evs T nm (hi - lo) lo (fun _ => 0)).map (fun val => val (hi - 1)) := by
    unfold lawv
    rw [h1, h2, show ((hi : Int) - (lo : Int)).toNat = hi - lo by omega, show ((lo : Int)).toNat = lo by omega, show ((hi : Int) - 1).toNat = hi - 1 by omega]
  refine Ct.ofV (by decide) rfl (Nat.le_of_ble_eq_true rfl) ?_
  refine V_al0n dX12_lawOf_0 ?_
  refine V_iconst dX12_lawOf_1 ?_
  refine V_putZ kk104 (by decide) fl_X12_386 rfl (by first | exact Or.inl rfl | exact Or.inr rfl | (unfold bz; split <;> simp)) dX12_lawOf_2 ?_
  refine V_al0n dX12_lawOf_5 ?_
  refine V_getR kk104 (by decide) fl_X12_84 (fx_104_51 hρ) dX12_lawOf_6 ?_
  refine V_il1n dX12_lawOf_9 ?_
  refine V_iald (k := w) kk128 (by decide) (by first | rfl | omega) (by omega) (by first | decide | assumption | omega) (u2_n (by omega) fl) dX12_lawOf_10 ?_
  refine V_is2n dX12_lawOf_11 (by decide) rfl ?_
  refine w_lawOf hρ hT hw h2 h4 h3 h5 hn (R := evs T nm (hi - lo) lo (g 136)) (fun g' hg' v hv e1 e2 => ?_) lo (by omega) (by omega) g (fun _ _ => rfl) (fun j e1 e2 => by omega) false (fun h => by cases h) (fun _ => rfl)
  rcases hR with ⟨r1, r2⟩ | ⟨u, u', r1, r2, r3⟩
  · refine ⟨v, rfl, hv, ?_, rfl, ?_, hg'⟩
    · rw [hlv, r2, e1 r1]; rfl
    · rw [hlv, r1, r2]; rfl
  · refine ⟨v, rfl, hv, ?_, rfl, ?_, hg'⟩
    · rw [hlv, r2, e2 u r1]; exact r3 (hi - 1) (by omega) (by omega)
    · rw [hlv, r1, r2]; rfl
def bl (T : TT) (nm : Nat → Int) (w : Nat) (wo lo hi : Int) : Int := if T 127 w = 0 then wo else match lawv T nm w with
  | none => wo
  | some v => if v < lo then lo else if hi < v then hi else v
theorem bl_rng {T : TT} {nm : Nat → Int} {w : Nat} {wo lo hi : Int} (h : lo ≤ hi) (hw : lo ≤ wo ∧ wo ≤ hi) : lo ≤ bl T nm w wo lo hi ∧ bl T nm w wo lo hi ≤ hi := by
  unfold bl
  split
  · exact hw
  · split
    · exact hw
    · (repeat' split) <;> omega
/-- what asking a law changes: the error flag, the knots' worths -/
def Ev (f : IT) (g : JT) (f' : IT) (g' : JT) : Prop := (∀ a k, ¬ (a = 104 ∧ k = 66) → f' a k = f a k) ∧ ∀ a, a ≠ 136 → g' a = g a
theorem c_boundLaw {T : TT} {ρ : RT} {f : IT} {g : JT} (hρ : Fx ρ) (hT : MT T f) (hk : TOK T) {w : Nat} (hw : w < 8) {nm : Nat → Int} (hn : ∀ k, k < 8 → g 135 k = nm k ∧ inB (nm k)) {wo lo hi : Int} (hlo : ri lo) (hhi : ri hi) (hwo : ri wo) :
    C_X12_boundLaw [.ref 104, .int (iz (w : Int)), .int (iz wo), .int (iz lo), .int (iz hi)] ρ f g (fun r ρ' f' g' => r = some (.int (iz (bl T nm w wo lo hi))) ∧ ρ' = ρ ∧ Ev f g f' g') := by
  have fw : f 127 w = T 127 w := hT.at rfl hw
  have h01 := (hk.law hw).1
  have rr : ∀ x, ri x → rl x := fun x h => by unfold ri at h; unfold rl; omega
  refine Ct.ofV (by decide) rfl (Nat.le_of_ble_eq_true rfl) ?_
  refine V_al0n dX12_boundLaw_0 ?_
  refine V_getR kk104 (by decide) fl_X12_81 (fx_104_50 hρ) dX12_boundLaw_1 ?_
  refine V_il1n dX12_boundLaw_4 ?_
  refine V_zald (k := w) kk127 (by decide) (by first | rfl | omega) (by omega) (by first | decide | assumption | omega) fw dX12_boundLaw_5 ?_
  refine V_if_ne (tgt := 11) dX12_boundLaw_6 rfl (by first | assumption | (unfold ri at *; omega)) (fun b6 => ?_) (fun b6 => ?_)
  · refine V_al0n dX12_boundLaw_11 ?_
    refine V_il1n dX12_boundLaw_12 ?_
    refine V_callV (as := [_]) ml_X12_430 im_X12_lawOf se_X12_lawOf kk104 (by decide) (by decide) dX12_boundLaw_13 rfl rfl (by decide) (by decide) (Nat.le_of_ble_eq_true rfl) (by decide) (by decide) rfl (c_lawOf hρ hT hk hw (by omega) hn) ?_
    rintro r13 ρ13 f13 g13 ⟨v, rfl, hv, ev, s13_0, rfl, hg⟩
    obtain rfl := s13_0.symm
    refine V_ls5 dX12_boundLaw_16 (by decide) rfl ?_
    refine V_al0n dX12_boundLaw_18 ?_
    refine V_getZ kk104 (by decide) fl_X12_386 u2_s dX12_boundLaw_19 ?_
    refine V_bt (tgt := 27) dX12_boundLaw_22 rfl (fun b22 => ?_) (fun b22 => ?_)
    · have hs : lawv T nm w = some v := by
        cases hL : lawv T nm w with
        | none => rw [hL] at b22; cases b22
        | some v' => rw [hL] at ev; rw [ev]; rfl
      have rv : rl v := by unfold inB at hv; unfold rl; omega
      refine V_ll5 dX12_boundLaw_27 ?_
      refine V_il3n dX12_boundLaw_29 ?_
      refine V_i2l dX12_boundLaw_30 (by first | assumption | (unfold ri at *; omega)) ?_
      refine V_lif_ge (tgt := 37) dX12_boundLaw_31 dX12_boundLaw_32 rfl rv (rr _ hlo) (fun b32 => ?_) (fun b32 => ?_)
      · refine V_ll5 dX12_boundLaw_37 ?_
        refine V_il4 dX12_boundLaw_39 ?_
        refine V_i2l dX12_boundLaw_41 (by first | assumption | (unfold ri at *; omega)) ?_
        refine V_lif_le (tgt := 51) dX12_boundLaw_42 dX12_boundLaw_43 rfl rv (rr _ hhi) (fun b43 => ?_) (fun b43 => ?_)
        · refine V_ll5 dX12_boundLaw_51 ?_
          refine V_l2i dX12_boundLaw_53 ?_
          exact V_ireturn rfl ⟨by unfold bl; rw [if_neg b6, hs]; simp only; (repeat' split) <;> first | rfl | (exfalso; omega), rfl, fun a k h => u2_o h, hg⟩ dX12_boundLaw_54
        · refine V_il4 dX12_boundLaw_46 ?_
          refine V_goto (tgt := 54) dX12_boundLaw_48 rfl ?_
          exact V_ireturn rfl ⟨by unfold bl; rw [if_neg b6, hs]; simp only; (repeat' split) <;> first | rfl | (exfalso; omega), rfl, fun a k h => u2_o h, hg⟩ dX12_boundLaw_54
      · refine V_il3n dX12_boundLaw_35 ?_
        exact V_ireturn rfl ⟨by unfold bl; rw [if_neg b6, hs]; simp only; (repeat' split) <;> first | rfl | (exfalso; omega), rfl, fun a k h => u2_o h, hg⟩ dX12_boundLaw_36
    · refine V_il2n dX12_boundLaw_25 ?_
      exact V_ireturn rfl ⟨(by unfold bl; rw [if_neg b6]; cases hL : lawv T nm w with | none => rfl | some v' => rw [hL] at b22; cases b22), rfl, fun a k h => u2_o h, hg⟩ dX12_boundLaw_26
  · refine V_il2n dX12_boundLaw_9 ?_
    exact V_ireturn rfl ⟨by unfold bl; rw [if_pos b6], rfl, fun _ _ _ => rfl, fun _ _ => rfl⟩ dX12_boundLaw_10
/-- the names of a step -/
def nms (T : TT) (k : Nat) (fl ra : Bool) (sk wt wi le pa : Int) : Nat → Int
  | 0 => pa
  | 1 => if fl = true then 0 else T 109 k
  | 2 => sk
  | 3 => wt
  | 4 => wi
  | 5 => le
  | 6 => bz (decide (T 111 k = 1) || ra)
  | 7 => bz (decide (T 110 k = 1))
  | _ => 0
theorem c_layNames {T : TT} {ρ : RT} {f : IT} {g : JT} (hρ : Fx ρ) (hT : MT T f) (hk : TOK T) {k : Nat} (hl : k < nLa T) {fl ra : Bool} {sk wt wi le pa : Int} (hr : f 104 68 = bz ra) (hf : f 104 72 = bz fl) (h1 : f 104 71 = sk) (h2 : f 104 70 = wt) (h3 : f 104 74 = wi) (h4 : f 104 75 = le) (r1 : ri sk) (r2 : ri wt) (r3 : ri wi) (r4 : ri le) (r5 : ri pa) :
    C_X12_layNames [.ref 104, .int (iz (k : Int)), .int (iz pa)] ρ f g (fun r ρ' f' g' => r = none ∧ ρ' = ρ ∧ f' = f ∧ (∀ j, j < 8 → g' 135 j = nms T k fl ra sk wt wi le pa j) ∧ ∀ a, a ≠ 135 → g' a = g a) := by
  have h6 := hk.la
  have hla := hk.lane hl
  have rs : ri (if fl = true then 0 else T 109 k) := by unfold ri; split <;> omega
  refine Ct.ofV (by decide) rfl (Nat.le_of_ble_eq_true rfl) ?_
  refine V_al0n dX12_layNames_0 ?_
  refine V_getR kk104 (by decide) fl_X12_105 (fx_104_64 hρ) dX12_layNames_1 ?_
  refine V_iconst dX12_layNames_4 ?_
  refine V_il2n dX12_layNames_5 ?_
  refine V_i2l dX12_layNames_6 (by first | assumption | (unfold ri at *; omega)) ?_
  refine V_last (k := 0) kk135 (by decide) (by first | rfl | omega) (by omega) (by first | decide | assumption | omega) dX12_layNames_7 ?_
  refine V_al0n dX12_layNames_8 ?_
  refine V_getR kk104 (by decide) fl_X12_105 (fx_104_64 hρ) dX12_layNames_9 ?_
  refine V_iconst dX12_layNames_12 ?_
  refine V_al0n dX12_layNames_13 ?_
  refine V_il1n dX12_layNames_14 ?_
  refine V_callV (as := [_]) ml_X12_408 im_X12_slopeOf se_X12_slopeOf kk104 (by decide) (by decide) dX12_layNames_15 rfl rfl (by decide) (by decide) (Nat.le_of_ble_eq_true rfl) (by decide) (by decide) rfl (c_slopeOf hρ hT hk hl hf) ?_
  refine pq4 ?_
  refine V_i2l dX12_layNames_18 (by first | assumption | (unfold ri at *; omega)) ?_
  refine V_last (k := 1) kk135 (by decide) (by first | rfl | omega) (by omega) (by first | decide | assumption | omega) dX12_layNames_19 ?_
  refine V_al0n dX12_layNames_20 ?_
  refine V_getR kk104 (by decide) fl_X12_105 (fx_104_64 hρ) dX12_layNames_21 ?_
  refine V_iconst dX12_layNames_24 ?_
  refine V_al0n dX12_layNames_25 ?_
  refine V_getI kk104 (by decide) fl_X12_411 h1 dX12_layNames_26 ?_
  refine V_i2l dX12_layNames_29 (by first | assumption | (unfold ri at *; omega)) ?_
  refine V_last (k := 2) kk135 (by decide) (by first | rfl | omega) (by omega) (by first | decide | assumption | omega) dX12_layNames_30 ?_
  refine V_al0n dX12_layNames_31 ?_
  refine V_getR kk104 (by decide) fl_X12_105 (fx_104_64 hρ) dX12_layNames_32 ?_
  refine V_iconst dX12_layNames_35 ?_
  refine V_al0n dX12_layNames_36 ?_
  refine V_getI kk104 (by decide) fl_X12_414 h2 dX12_layNames_37 ?_
  refine V_i2l dX12_layNames_40 (by first | assumption | (unfold ri at *; omega)) ?_
  refine V_last (k := 3) kk135 (by decide) (by first | rfl | omega) (by omega) (by first | decide | assumption | omega) dX12_layNames_41 ?_
  refine V_al0n dX12_layNames_42 ?_
  refine V_getR kk104 (by decide) fl_X12_105 (fx_104_64 hρ) dX12_layNames_43 ?_
  refine V_iconst dX12_layNames_46 ?_
  refine V_al0n dX12_layNames_47 ?_
  refine V_getI kk104 (by decide) fl_X12_417 h3 dX12_layNames_48 ?_
  refine V_i2l dX12_layNames_51 (by first | assumption | (unfold ri at *; omega)) ?_
  refine V_last (k := 4) kk135 (by decide) (by first | rfl | omega) (by omega) (by first | decide | assumption | omega) dX12_layNames_52 ?_
  refine V_al0n dX12_layNames_53 ?_
  refine V_getR kk104 (by decide) fl_X12_105 (fx_104_64 hρ) dX12_layNames_54 ?_
  refine V_iconst dX12_layNames_57 ?_
  refine V_al0n dX12_layNames_58 ?_
  refine V_getI kk104 (by decide) fl_X12_420 h4 dX12_layNames_59 ?_
  refine V_i2l dX12_layNames_62 (by first | assumption | (unfold ri at *; omega)) ?_
  refine V_last (k := 5) kk135 (by decide) (by first | rfl | omega) (by omega) (by first | decide | assumption | omega) dX12_layNames_63 ?_
  refine V_al0n dX12_layNames_64 ?_
  refine V_getR kk104 (by decide) fl_X12_105 (fx_104_64 hρ) dX12_layNames_65 ?_
  refine V_bipush dX12_layNames_68 rfl ?_
  refine V_al0n dX12_layNames_70 ?_
  refine V_il1n dX12_layNames_71 ?_
  refine V_callV (as := [_]) ml_X12_423 im_X12_isDamp se_X12_isDamp kk104 (by decide) (by decide) dX12_layNames_72 rfl rfl (by decide) (by decide) (Nat.le_of_ble_eq_true rfl) (by decide) (by decide) rfl (c_isDamp hρ hT hk hl hr) ?_
  refine pq4 ?_
  refine V_bt (tgt := 82) dX12_layNames_75 rfl (fun b75 => ?_) (fun b75 => ?_)
  · refine V_lconst (a := 0) dX12_layNames_82 rfl ?_
    refine V_last (k := 6) kk135 (by decide) (by first | rfl | omega) (by omega) (by first | decide | assumption | omega) dX12_layNames_83 ?_
    refine V_al0n dX12_layNames_84 ?_
    refine V_getR kk104 (by decide) fl_X12_105 (fx_104_64 hρ) dX12_layNames_85 ?_
    refine V_bipush dX12_layNames_88 rfl ?_
    refine V_al0n dX12_layNames_90 ?_
    refine V_getR kk104 (by decide) fl_X12_29 (fx_104_33 hρ) dX12_layNames_91 ?_
    refine V_il1n dX12_layNames_94 ?_
    refine V_zald (k := k) kk110 (by decide) (by first | rfl | omega) (by omega) (by first | decide | assumption | omega) (hT.at rfl (by omega : k < 6)) dX12_layNames_95 ?_
    refine V_if_eq (tgt := 103) dX12_layNames_96 rfl (by first | assumption | (unfold ri at *; omega)) (fun b96 => ?_) (fun b96 => ?_)
    · refine V_lconst (a := 0) dX12_layNames_103 rfl ?_
      refine V_last (k := 7) kk135 (by decide) (by first | rfl | omega) (by omega) (by first | decide | assumption | omega) dX12_layNames_104 ?_
      exact V_return rfl ⟨rfl, rfl, rfl, fun j hj => by
  rcases (show j = 0 ∨ j = 1 ∨ j = 2 ∨ j = 3 ∨ j = 4 ∨ j = 5 ∨ j = 6 ∨ j = 7 by omega) with rfl | rfl | rfl | rfl | rfl | rfl | rfl | rfl <;> simp [u2, nms, bz, *], fun a ha => by simp only [u2_row ha]⟩ dX12_layNames_105
    · have e96 : T 110 k = 1 := by omega
      refine V_lconst (a := 1) dX12_layNames_99 rfl ?_
      refine V_goto (tgt := 104) dX12_layNames_100 rfl ?_
      refine V_last (k := 7) kk135 (by decide) (by first | rfl | omega) (by omega) (by first | decide | assumption | omega) dX12_layNames_104 ?_
      exact V_return rfl ⟨rfl, rfl, rfl, fun j hj => by
  rcases (show j = 0 ∨ j = 1 ∨ j = 2 ∨ j = 3 ∨ j = 4 ∨ j = 5 ∨ j = 6 ∨ j = 7 by omega) with rfl | rfl | rfl | rfl | rfl | rfl | rfl | rfl <;> simp [u2, nms, bz, *], fun a ha => by simp only [u2_row ha]⟩ dX12_layNames_105
  · refine V_lconst (a := 1) dX12_layNames_78 rfl ?_
    refine V_goto (tgt := 83) dX12_layNames_79 rfl ?_
    refine V_last (k := 6) kk135 (by decide) (by first | rfl | omega) (by omega) (by first | decide | assumption | omega) dX12_layNames_83 ?_
    refine V_al0n dX12_layNames_84 ?_
    refine V_getR kk104 (by decide) fl_X12_105 (fx_104_64 hρ) dX12_layNames_85 ?_
    refine V_bipush dX12_layNames_88 rfl ?_
    refine V_al0n dX12_layNames_90 ?_
    refine V_getR kk104 (by decide) fl_X12_29 (fx_104_33 hρ) dX12_layNames_91 ?_
    refine V_il1n dX12_layNames_94 ?_
    refine V_zald (k := k) kk110 (by decide) (by first | rfl | omega) (by omega) (by first | decide | assumption | omega) (hT.at rfl (by omega : k < 6)) dX12_layNames_95 ?_
    refine V_if_eq (tgt := 103) dX12_layNames_96 rfl (by first | assumption | (unfold ri at *; omega)) (fun b96 => ?_) (fun b96 => ?_)
    · refine V_lconst (a := 0) dX12_layNames_103 rfl ?_
      refine V_last (k := 7) kk135 (by decide) (by first | rfl | omega) (by omega) (by first | decide | assumption | omega) dX12_layNames_104 ?_
      exact V_return rfl ⟨rfl, rfl, rfl, fun j hj => by
  rcases (show j = 0 ∨ j = 1 ∨ j = 2 ∨ j = 3 ∨ j = 4 ∨ j = 5 ∨ j = 6 ∨ j = 7 by omega) with rfl | rfl | rfl | rfl | rfl | rfl | rfl | rfl <;> simp [u2, nms, bz, *], fun a ha => by simp only [u2_row ha]⟩ dX12_layNames_105
    · have e96 : T 110 k = 1 := by omega
      refine V_lconst (a := 1) dX12_layNames_99 rfl ?_
      refine V_goto (tgt := 104) dX12_layNames_100 rfl ?_
      refine V_last (k := 7) kk135 (by decide) (by first | rfl | omega) (by omega) (by first | decide | assumption | omega) dX12_layNames_104 ?_
      exact V_return rfl ⟨rfl, rfl, rfl, fun j hj => by
  rcases (show j = 0 ∨ j = 1 ∨ j = 2 ∨ j = 3 ∨ j = 4 ∨ j = 5 ∨ j = 6 ∨ j = 7 by omega) with rfl | rfl | rfl | rfl | rfl | rfl | rfl | rfl <;> simp [u2, nms, bz, *], fun a ha => by simp only [u2_row ha]⟩ dX12_layNames_105
theorem u2_k {α : Type} {f f0 : Nat → Nat → α} {P : Nat → Nat → Prop} {a k : Nat} {x : α} (hP : P a k) (h : ∀ b j, ¬ P b j → f b j = f0 b j) : ∀ b j, ¬ P b j → u2 f a k x b j = f0 b j := fun b j hb => (u2_o (a := a) (k := k) (fun q => hb (by rw [q.1, q.2]; exact hP))).trans (h b j hb)
theorem c_begins {T : TT} {ρ : RT} {f : IT} {g : JT} (hρ : Fx ρ) (hT : MT T f) (hk : TOK T) {m : Nat} (hm : m < nMe T) {sk : Int} (hs : f 104 67 = sk) :
    C_X12_begins [.ref 104, .int (iz (m : Int))] ρ f g (fun r ρ' f' g' => r = none ∧ ρ' = ρ ∧ (f' 104 70 = T 115 m ∧ f' 104 71 = sk ∧ f' 104 72 = bz false ∧ f' 104 73 = T 113 m ∧ f' 104 74 = T 113 m ∧ f' 104 75 = T 114 m ∧ f' 104 76 = 0 ∧ f' 104 77 = 0) ∧ (∀ a k, ¬ (a = 104 ∧ 70 ≤ k ∧ k ≤ 77) → f' a k = f a k) ∧ g' = g) := by
  have h6 := hk.me
  refine Ct.ofV (by decide) rfl (Nat.le_of_ble_eq_true rfl) ?_
  refine V_al0n dX12_begins_0 ?_
  refine V_al0n dX12_begins_1 ?_
  refine V_getR kk104 (by decide) fl_X12_45 (fx_104_38 hρ) dX12_begins_2 ?_
  refine V_il1n dX12_begins_5 ?_
  refine V_iald (k := m) kk115 (by decide) (by first | rfl | omega) (by omega) (by first | decide | assumption | omega) (hT.at rfl (by omega : m < 5)) dX12_begins_6 ?_
  refine V_putI kk104 (by decide) fl_X12_414 rfl dX12_begins_7 ?_
  refine V_al0n dX12_begins_10 ?_
  refine V_al0n dX12_begins_11 ?_
  refine V_getI kk104 (by decide) fl_X12_282 (u2_n (by decide) hs) dX12_begins_12 ?_
  refine V_putI kk104 (by decide) fl_X12_411 rfl dX12_begins_15 ?_
  refine V_al0n dX12_begins_18 ?_
  refine V_iconst dX12_begins_19 ?_
  refine V_putZ kk104 (by decide) fl_X12_405 rfl (by first | exact Or.inl rfl | exact Or.inr rfl | (unfold bz; split <;> simp)) dX12_begins_20 ?_
  refine V_al0n dX12_begins_23 ?_
  refine V_al0n dX12_begins_24 ?_
  refine V_getR kk104 (by decide) fl_X12_39 (fx_104_36 hρ) dX12_begins_25 ?_
  refine V_il1n dX12_begins_28 ?_
  refine V_iald (k := m) kk113 (by decide) (by first | rfl | omega) (by omega) (by first | decide | assumption | omega) (u2_n (by omega) (u2_n (by omega) (u2_n (by omega) (hT.at rfl (by omega : m < 5))))) dX12_begins_29 ?_
  refine V_putI kk104 (by decide) fl_X12_444 rfl dX12_begins_30 ?_
  refine V_al0n dX12_begins_33 ?_
  refine V_al0n dX12_begins_34 ?_
  refine V_getR kk104 (by decide) fl_X12_39 (fx_104_36 hρ) dX12_begins_35 ?_
  refine V_il1n dX12_begins_38 ?_
  refine V_iald (k := m) kk113 (by decide) (by first | rfl | omega) (by omega) (by first | decide | assumption | omega) (u2_n (by omega) (u2_n (by omega) (u2_n (by omega) (u2_n (by omega) (hT.at rfl (by omega : m < 5)))))) dX12_begins_39 ?_
  refine V_putI kk104 (by decide) fl_X12_417 rfl dX12_begins_40 ?_
  refine V_al0n dX12_begins_43 ?_
  refine V_al0n dX12_begins_44 ?_
  refine V_getR kk104 (by decide) fl_X12_42 (fx_104_37 hρ) dX12_begins_45 ?_
  refine V_il1n dX12_begins_48 ?_
  refine V_iald (k := m) kk114 (by decide) (by first | rfl | omega) (by omega) (by first | decide | assumption | omega) (u2_n (by omega) (u2_n (by omega) (u2_n (by omega) (u2_n (by omega) (u2_n (by omega) (hT.at rfl (by omega : m < 5))))))) dX12_begins_49 ?_
  refine V_putI kk104 (by decide) fl_X12_420 rfl dX12_begins_50 ?_
  refine V_al0n dX12_begins_53 ?_
  refine V_iconst dX12_begins_54 ?_
  refine V_putI kk104 (by decide) fl_X12_441 rfl dX12_begins_55 ?_
  refine V_al0n dX12_begins_58 ?_
  refine V_iconst dX12_begins_59 ?_
  refine V_putI kk104 (by decide) fl_X12_447 rfl dX12_begins_60 ?_
  exact V_return rfl ⟨rfl, rfl, by simp [u2, bz], (by repeat (first | exact fun _ _ _ => rfl | refine u2_k (by omega) ?_)), rfl⟩ dX12_begins_63
theorem w_step75 {Q : QT} {ρ : RT} {f : IT} {g : JT} {a1 a2 a3 a4 ti co ac te wi le dn top : Int} (h73 : f 104 73 = top) (h74 : f 104 74 = wi) (h75 : f 104 75 = le) (h76 : f 104 76 = te) (h77 : f 104 77 = dn) (r1 : 0 ≤ wi ∧ wi ≤ 100) (r2 : -100 ≤ co ∧ co ≤ 100) (r3 : 0 ≤ top ∧ top ≤ 100) (r4 : 0 ≤ le ∧ le ≤ 100) (r5 : 0 ≤ ac ∧ ac ≤ 100)
    (hQ : ∀ f' : IT, f' 104 76 = te + ti → f' 104 74 = (if wi - co < 0 then 0 else if top < wi - co then top else wi - co) → f' 104 75 = (if le < ac then 0 else le - ac) → f' 104 77 = dn + 1 → (∀ a k, ¬ (a = 104 ∧ 74 ≤ k ∧ k ≤ 77) → f' a k = f a k) → Q none ρ f' g) :
    V_X12_step Q 75 [.ref 104, .int (iz a1), .int (iz a2), .int (iz a3), .int (iz a4), .int (iz ti), .int (iz co), .int (iz ac)] [] ρ f g := by
  refine V_al0n dX12_step_75 ?_
  refine V_dup dX12_step_76 rfl ?_
  refine V_getI kk104 (by decide) fl_X12_441 h76 dX12_step_77 ?_
  refine V_il5 dX12_step_80 ?_
  refine V_iadd dX12_step_82 ?_
  refine V_putI kk104 (by decide) fl_X12_441 rfl dX12_step_83 ?_
  refine V_al0n dX12_step_86 ?_
  refine V_dup dX12_step_87 rfl ?_
  refine V_getI kk104 (by decide) fl_X12_417 (u2_n (by decide) h74) dX12_step_88 ?_
  refine V_il6 dX12_step_91 ?_
  refine V_isub dX12_step_93 ?_
  refine V_putI kk104 (by decide) fl_X12_417 rfl dX12_step_94 ?_
  refine V_al0n dX12_step_97 ?_
  refine V_al0n dX12_step_98 ?_
  refine V_getI kk104 (by decide) fl_X12_417 u2_s dX12_step_99 ?_
  refine V_if_ge (tgt := 109) dX12_step_102 rfl (by first | assumption | (unfold ri at *; omega)) (fun b102 => ?_) (fun b102 => ?_)
  · refine V_al0n dX12_step_109 ?_
    refine V_getI kk104 (by decide) fl_X12_417 u2_s dX12_step_110 ?_
    refine V_al0n dX12_step_113 ?_
    refine V_getI kk104 (by decide) fl_X12_444 (u2_n (by decide) (u2_n (by decide) h73)) dX12_step_114 ?_
    refine V_icmp_le (tgt := 127) dX12_step_117 rfl (by first | assumption | (unfold ri at *; omega)) (by first | assumption | (unfold ri at *; omega)) (fun b117 => ?_) (fun b117 => ?_)
    · refine V_al0n dX12_step_127 ?_
      refine V_getI kk104 (by decide) fl_X12_417 u2_s dX12_step_128 ?_
      refine V_putI kk104 (by decide) fl_X12_417 rfl dX12_step_131 ?_
      refine V_al0n dX12_step_134 ?_
      refine V_al0n dX12_step_135 ?_
      refine V_getI kk104 (by decide) fl_X12_420 (u2_n (by decide) (u2_n (by decide) (u2_n (by decide) h75))) dX12_step_136 ?_
      refine V_il7 dX12_step_139 ?_
      refine V_icmp_ge (tgt := 148) dX12_step_141 rfl (by first | assumption | (unfold ri at *; omega)) (by first | assumption | (unfold ri at *; omega)) (fun b141 => ?_) (fun b141 => ?_)
      · refine V_al0n dX12_step_148 ?_
        refine V_getI kk104 (by decide) fl_X12_420 (u2_n (by decide) (u2_n (by decide) (u2_n (by decide) h75))) dX12_step_149 ?_
        refine V_il7 dX12_step_152 ?_
        refine V_isub dX12_step_154 ?_
        refine V_putI kk104 (by decide) fl_X12_420 rfl dX12_step_155 ?_
        refine V_al0n dX12_step_158 ?_
        refine V_dup dX12_step_159 rfl ?_
        refine V_getI kk104 (by decide) fl_X12_447 (u2_n (by decide) (u2_n (by decide) (u2_n (by decide) (u2_n (by decide) h77)))) dX12_step_160 ?_
        refine V_iconst dX12_step_163 ?_
        refine V_iadd dX12_step_164 ?_
        refine V_putI kk104 (by decide) fl_X12_447 rfl dX12_step_165 ?_
        exact V_return rfl (hQ _ (by simp [u2]) (by simp only [u2]; simp; (repeat' split) <;> omega) (by simp only [u2]; simp; (repeat' split) <;> omega) (by simp [u2]) (by repeat (first | exact fun _ _ _ => rfl | refine u2_k (by omega) ?_))) dX12_step_168
      · refine V_iconst dX12_step_144 ?_
        refine V_goto (tgt := 155) dX12_step_145 rfl ?_
        refine V_putI kk104 (by decide) fl_X12_420 rfl dX12_step_155 ?_
        refine V_al0n dX12_step_158 ?_
        refine V_dup dX12_step_159 rfl ?_
        refine V_getI kk104 (by decide) fl_X12_447 (u2_n (by decide) (u2_n (by decide) (u2_n (by decide) (u2_n (by decide) h77)))) dX12_step_160 ?_
        refine V_iconst dX12_step_163 ?_
        refine V_iadd dX12_step_164 ?_
        refine V_putI kk104 (by decide) fl_X12_447 rfl dX12_step_165 ?_
        exact V_return rfl (hQ _ (by simp [u2]) (by simp only [u2]; simp; (repeat' split) <;> omega) (by simp only [u2]; simp; (repeat' split) <;> omega) (by simp [u2]) (by repeat (first | exact fun _ _ _ => rfl | refine u2_k (by omega) ?_))) dX12_step_168
    · refine V_al0n dX12_step_120 ?_
      refine V_getI kk104 (by decide) fl_X12_444 (u2_n (by decide) (u2_n (by decide) h73)) dX12_step_121 ?_
      refine V_goto (tgt := 131) dX12_step_124 rfl ?_
      refine V_putI kk104 (by decide) fl_X12_417 rfl dX12_step_131 ?_
      refine V_al0n dX12_step_134 ?_
      refine V_al0n dX12_step_135 ?_
      refine V_getI kk104 (by decide) fl_X12_420 (u2_n (by decide) (u2_n (by decide) (u2_n (by decide) h75))) dX12_step_136 ?_
      refine V_il7 dX12_step_139 ?_
      refine V_icmp_ge (tgt := 148) dX12_step_141 rfl (by first | assumption | (unfold ri at *; omega)) (by first | assumption | (unfold ri at *; omega)) (fun b141 => ?_) (fun b141 => ?_)
      · refine V_al0n dX12_step_148 ?_
        refine V_getI kk104 (by decide) fl_X12_420 (u2_n (by decide) (u2_n (by decide) (u2_n (by decide) h75))) dX12_step_149 ?_
        refine V_il7 dX12_step_152 ?_
        refine V_isub dX12_step_154 ?_
        refine V_putI kk104 (by decide) fl_X12_420 rfl dX12_step_155 ?_
        refine V_al0n dX12_step_158 ?_
        refine V_dup dX12_step_159 rfl ?_
        refine V_getI kk104 (by decide) fl_X12_447 (u2_n (by decide) (u2_n (by decide) (u2_n (by decide) (u2_n (by decide) h77)))) dX12_step_160 ?_
        refine V_iconst dX12_step_163 ?_
        refine V_iadd dX12_step_164 ?_
        refine V_putI kk104 (by decide) fl_X12_447 rfl dX12_step_165 ?_
        exact V_return rfl (hQ _ (by simp [u2]) (by simp only [u2]; simp; (repeat' split) <;> omega) (by simp only [u2]; simp; (repeat' split) <;> omega) (by simp [u2]) (by repeat (first | exact fun _ _ _ => rfl | refine u2_k (by omega) ?_))) dX12_step_168
      · refine V_iconst dX12_step_144 ?_
        refine V_goto (tgt := 155) dX12_step_145 rfl ?_
        refine V_putI kk104 (by decide) fl_X12_420 rfl dX12_step_155 ?_
        refine V_al0n dX12_step_158 ?_
        refine V_dup dX12_step_159 rfl ?_
        refine V_getI kk104 (by decide) fl_X12_447 (u2_n (by decide) (u2_n (by decide) (u2_n (by decide) (u2_n (by decide) h77)))) dX12_step_160 ?_
        refine V_iconst dX12_step_163 ?_
        refine V_iadd dX12_step_164 ?_
        refine V_putI kk104 (by decide) fl_X12_447 rfl dX12_step_165 ?_
        exact V_return rfl (hQ _ (by simp [u2]) (by simp only [u2]; simp; (repeat' split) <;> omega) (by simp only [u2]; simp; (repeat' split) <;> omega) (by simp [u2]) (by repeat (first | exact fun _ _ _ => rfl | refine u2_k (by omega) ?_))) dX12_step_168
  · refine V_iconst dX12_step_105 ?_
    refine V_goto (tgt := 131) dX12_step_106 rfl ?_
    refine V_putI kk104 (by decide) fl_X12_417 rfl dX12_step_131 ?_
    refine V_al0n dX12_step_134 ?_
    refine V_al0n dX12_step_135 ?_
    refine V_getI kk104 (by decide) fl_X12_420 (u2_n (by decide) (u2_n (by decide) (u2_n (by decide) h75))) dX12_step_136 ?_
    refine V_il7 dX12_step_139 ?_
    refine V_icmp_ge (tgt := 148) dX12_step_141 rfl (by first | assumption | (unfold ri at *; omega)) (by first | assumption | (unfold ri at *; omega)) (fun b141 => ?_) (fun b141 => ?_)
    · refine V_al0n dX12_step_148 ?_
      refine V_getI kk104 (by decide) fl_X12_420 (u2_n (by decide) (u2_n (by decide) (u2_n (by decide) h75))) dX12_step_149 ?_
      refine V_il7 dX12_step_152 ?_
      refine V_isub dX12_step_154 ?_
      refine V_putI kk104 (by decide) fl_X12_420 rfl dX12_step_155 ?_
      refine V_al0n dX12_step_158 ?_
      refine V_dup dX12_step_159 rfl ?_
      refine V_getI kk104 (by decide) fl_X12_447 (u2_n (by decide) (u2_n (by decide) (u2_n (by decide) (u2_n (by decide) h77)))) dX12_step_160 ?_
      refine V_iconst dX12_step_163 ?_
      refine V_iadd dX12_step_164 ?_
      refine V_putI kk104 (by decide) fl_X12_447 rfl dX12_step_165 ?_
      exact V_return rfl (hQ _ (by simp [u2]) (by simp only [u2]; simp; (repeat' split) <;> omega) (by simp only [u2]; simp; (repeat' split) <;> omega) (by simp [u2]) (by repeat (first | exact fun _ _ _ => rfl | refine u2_k (by omega) ?_))) dX12_step_168
    · refine V_iconst dX12_step_144 ?_
      refine V_goto (tgt := 155) dX12_step_145 rfl ?_
      refine V_putI kk104 (by decide) fl_X12_420 rfl dX12_step_155 ?_
      refine V_al0n dX12_step_158 ?_
      refine V_dup dX12_step_159 rfl ?_
      refine V_getI kk104 (by decide) fl_X12_447 (u2_n (by decide) (u2_n (by decide) (u2_n (by decide) (u2_n (by decide) h77)))) dX12_step_160 ?_
      refine V_iconst dX12_step_163 ?_
      refine V_iadd dX12_step_164 ?_
      refine V_putI kk104 (by decide) fl_X12_447 rfl dX12_step_165 ?_
      exact V_return rfl (hQ _ (by simp [u2]) (by simp only [u2]; simp; (repeat' split) <;> omega) (by simp only [u2]; simp; (repeat' split) <;> omega) (by simp [u2]) (by repeat (first | exact fun _ _ _ => rfl | refine u2_k (by omega) ?_))) dX12_step_168

