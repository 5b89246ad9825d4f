/-! names again, by the names' own ranges; what holds between two calls -/
section CINV
variable {T : TT} {b : Nat} {ρ : RT} {f : IT} {g : JT}
def NMK (T : TT) : Prop := ∀ k, ri (T 107 k) ∧ ri (T 112 k) ∧ ri (T 116 k) ∧ ri (T 120 k) ∧ ri (T 124 k)
theorem c_mnamed2 {T : TT} {ρ : RT} {f : IT} {g : JT} (hρ : Fx ρ) (hT : MT T f) (hk : TOK T) (hN : NMK T) {w x : Int} (rw_ : ri w) (rx : ri x) :
    C_X12_named [.ref 104, .int (iz w), .int (iz x)] ρ f g (fun r ρ' f' g' => r = some (.int (iz (aNamed T w x))) ∧ ρ' = ρ ∧ KM f f' ∧ KM g g') := by
  have k0 : KM f (u2 f 104 2 0) := KM.u2 rfl KM.rf
  have hT1 : MT T (u2 f 104 2 0) := hT.km k0
  have h1 := hk.la
  have h2 := hk.me
  have h3 := hk.ho
  have h4 := hk.pl
  have h5 := hk.ju
  refine Ct.ofV (by decide) rfl (Nat.le_of_ble_eq_true rfl) ?_
  refine V_al0n dX12_named_0 ?_
  refine V_iconst dX12_named_1 ?_
  refine V_putI kk104 (by decide) fl_X12_154 rfl dX12_named_2 ?_
  refine V_il1n dX12_named_5 ?_
  rcases (show w = 0 ∨ w = 1 ∨ w = 2 ∨ w = 3 ∨ w = 4 ∨ (w < 0 ∨ 4 < w) by omega) with ew | ew | ew | ew | ew | ew
  · refine V_tabIn (tgt := 40) (i := 0) dX12_named_6 (by first | rfl | omega) (by decide) (by first | decide | assumption | (unfold ri at *; omega)) rfl rfl ?_
    refine V_al0n dX12_named_40 ?_
    refine V_getR kk104 (by decide) fl_X12_20 (fx_104_30 hρ) dX12_named_41 ?_
    refine V_iconst dX12_named_44 ?_
    refine V_al0n dX12_named_45 ?_
    refine V_getI kk104 (by decide) fl_X12_250 (u2_n (by decide) ((hT 104 12 rfl).trans h1.1)) dX12_named_46 ?_
    refine V_il2n dX12_named_49 ?_
    refine V_callS (as := [_, _, _, _]) ml_X12_304 sm_X12_find dX12_named_50 rfl rfl (by decide) (by decide) (Nat.le_of_ble_eq_true rfl) (by decide) (by decide) rfl (c_find kk107 (by omega) (o := 0) (n := nLa T) (by omega) rx (fun j hj => by rw [hT1.at (n := 6) rfl (by omega)]; exact (hN _).1)) ?_
    refine pq4 ?_
    exact V_ireturn rfl ⟨by unfold aNamed; rw [ew, if_pos rfl, fnd_cg (fun j hj => hT1.at (n := 6) rfl (by omega))], rfl, k0, KM.rf⟩ dX12_named_53
  · refine V_tabIn (tgt := 54) (i := 1) dX12_named_6 (by first | rfl | omega) (by decide) (by first | decide | assumption | (unfold ri at *; omega)) rfl rfl ?_
    refine V_al0n dX12_named_54 ?_
    refine V_getR kk104 (by decide) fl_X12_36 (fx_104_35 hρ) dX12_named_55 ?_
    refine V_iconst dX12_named_58 ?_
    refine V_al0n dX12_named_59 ?_
    refine V_getI kk104 (by decide) fl_X12_253 (u2_n (by decide) ((hT 104 13 rfl).trans h2.1)) dX12_named_60 ?_
    refine V_il2n dX12_named_63 ?_
    refine V_callS (as := [_, _, _, _]) ml_X12_304 sm_X12_find dX12_named_64 rfl rfl (by decide) (by decide) (Nat.le_of_ble_eq_true rfl) (by decide) (by decide) rfl (c_find kk112 (by omega) (o := 0) (n := nMe T) (by omega) rx (fun j hj => by rw [hT1.at (n := 5) rfl (by omega)]; exact (hN _).2.1)) ?_
    refine pq4 ?_
    exact V_ireturn rfl ⟨by unfold aNamed; rw [ew, if_neg (by omega), if_pos rfl, fnd_cg (fun j hj => hT1.at (n := 5) rfl (by omega))], rfl, k0, KM.rf⟩ dX12_named_67
  · refine V_tabIn (tgt := 68) (i := 2) dX12_named_6 (by first | rfl | omega) (by decide) (by first | decide | assumption | (unfold ri at *; omega)) rfl rfl ?_
    refine V_al0n dX12_named_68 ?_
    refine V_getR kk104 (by decide) fl_X12_48 (fx_104_39 hρ) dX12_named_69 ?_
    refine V_iconst dX12_named_72 ?_
    refine V_al0n dX12_named_73 ?_
    refine V_getI kk104 (by decide) fl_X12_256 (u2_n (by decide) ((hT 104 14 rfl).trans h3.1)) dX12_named_74 ?_
    refine V_il2n dX12_named_77 ?_
    refine V_callS (as := [_, _, _, _]) ml_X12_304 sm_X12_find dX12_named_78 rfl rfl (by decide) (by decide) (Nat.le_of_ble_eq_true rfl) (by decide) (by decide) rfl (c_find kk116 (by omega) (o := 0) (n := nHo T) (by omega) rx (fun j hj => by rw [hT1.at (n := 3) rfl (by omega)]; exact (hN _).2.2.1)) ?_
    refine pq4 ?_
    exact V_ireturn rfl ⟨by unfold aNamed; rw [ew, if_neg (by omega), if_neg (by omega), if_pos rfl, fnd_cg (fun j hj => hT1.at (n := 3) rfl (by omega))], rfl, k0, KM.rf⟩ dX12_named_81
  · refine V_tabIn (tgt := 82) (i := 3) dX12_named_6 (by first | rfl | omega) (by decide) (by first | decide | assumption | (unfold ri at *; omega)) rfl rfl ?_
    refine V_al0n dX12_named_82 ?_
    refine V_getR kk104 (by decide) fl_X12_60 (fx_104_43 hρ) dX12_named_83 ?_
    refine V_iconst dX12_named_86 ?_
    refine V_al0n dX12_named_87 ?_
    refine V_getI kk104 (by decide) fl_X12_259 (u2_n (by decide) ((hT 104 15 rfl).trans h4.1)) dX12_named_88 ?_
    refine V_il2n dX12_named_91 ?_
    refine V_callS (as := [_, _, _, _]) ml_X12_304 sm_X12_find dX12_named_92 rfl rfl (by decide) (by decide) (Nat.le_of_ble_eq_true rfl) (by decide) (by decide) rfl (c_find kk120 (by omega) (o := 0) (n := nPl T) (by omega) rx (fun j hj => by rw [hT1.at (n := 5) rfl (by omega)]; exact (hN _).2.2.2.1)) ?_
    refine pq4 ?_
    exact V_ireturn rfl ⟨by unfold aNamed; rw [ew, if_neg (by omega), if_neg (by omega), if_neg (by omega), if_pos rfl, fnd_cg (fun j hj => hT1.at (n := 5) rfl (by omega))], rfl, k0, KM.rf⟩ dX12_named_95
  · refine V_tabIn (tgt := 96) (i := 4) dX12_named_6 (by first | rfl | omega) (by decide) (by first | decide | assumption | (unfold ri at *; omega)) rfl rfl ?_
    refine V_al0n dX12_named_96 ?_
    refine V_getR kk104 (by decide) fl_X12_72 (fx_104_47 hρ) dX12_named_97 ?_
    refine V_iconst dX12_named_100 ?_
    refine V_al0n dX12_named_101 ?_
    refine V_getI kk104 (by decide) fl_X12_262 (u2_n (by decide) ((hT 104 16 rfl).trans h5.1)) dX12_named_102 ?_
    refine V_il2n dX12_named_105 ?_
    refine V_callS (as := [_, _, _, _]) ml_X12_304 sm_X12_find dX12_named_106 rfl rfl (by decide) (by decide) (Nat.le_of_ble_eq_true rfl) (by decide) (by decide) rfl (c_find kk124 (by omega) (o := 0) (n := nJu T) (by omega) rx (fun j hj => by rw [hT1.at (n := 4) rfl (by omega)]; exact (hN _).2.2.2.2)) ?_
    refine pq4 ?_
    exact V_ireturn rfl ⟨by unfold aNamed; rw [ew, if_neg (by omega), if_neg (by omega), if_neg (by omega), if_neg (by omega), if_pos rfl, fnd_cg (fun j hj => hT1.at (n := 4) rfl (by omega))], rfl, k0, KM.rf⟩ dX12_named_109
  · refine V_tabOut (tgt := 110) dX12_named_6 (by omega) (by first | assumption | (unfold ri at *; omega)) rfl ?_
    refine V_iconst dX12_named_110 ?_
    exact V_ireturn rfl ⟨by unfold aNamed; rw [if_neg (by omega), if_neg (by omega), if_neg (by omega), if_neg (by omega), if_neg (by omega)], rfl, k0, KM.rf⟩ dX12_named_111
theorem namT_ri2 (hN : NMK T) {i : Nat} (hi : i < 5) (k : Nat) : ri (namT T i k) := by
  rcases (show i = 0 ∨ i = 1 ∨ i = 2 ∨ i = 3 ∨ i = 4 by omega) with rfl | rfl | rfl | rfl | rfl
  · exact (hN k).1
  · exact (hN k).2.1
  · exact (hN k).2.2.1
  · exact (hN k).2.2.2.1
  · exact (hN k).2.2.2.2
theorem c_named2 (hW : TW T b ρ) (hC : CT T b f) (hN : NMK T) {w x : Int} (rw_ : ri w) (rx : ri x) : C_X11_named [.ref 0, .int (iz w), .int (iz x)] ρ f g (fun r ρ' f' g' => r = some (.int (iz (aNamed T w x))) ∧ ρ' = ρ ∧ f' = f ∧ g' = g) := by
  have hk := hW.2.2.2.2.1
  have hρ := hW.1
  have hb := hW.2.1
  refine Ct.ofV (by decide) rfl (Nat.le_of_ble_eq_true rfl) ?_
  by_cases c : 0 ≤ w ∧ w ≤ 4
  · obtain ⟨i, rfl⟩ : ∃ i : Nat, w = i := ⟨w.toNat, by omega⟩
    have hi : i < 5 := by omega
    have hkd := kdR hb hi
    have hfx := fxR hρ hb hi
    have hn := hk.nk hi
    have hz : f (b + 2 + 3 * i) 4 = (((T 104 (12 + i)).toNat : Nat) : Int) := by rw [(hC.1 i hi).1]; omega
    have hcf : C_X3_find [.ref (b + 2 + 3 * i), .int (iz x)] ρ f g (fun r ρ' f' g' => r = some (.int (iz (aNamed T (i : Int) x))) ∧ ρ' = ρ ∧ f' = f ∧ g' = g) := by
      have := c_rfind (f := f) (g := g) (q := b + 2 + 3 * i) (n := mxK i) hkd.1 (by rw [show b + 2 + 3 * i + 1 = b + 3 + 3 * i by omega]; exact hkd.2.1) (by omega) (by rw [show b + 2 + 3 * i + 1 = b + 3 + 3 * i by omega]; exact hfx.2.1) hz (by omega) (hC.1 i hi).2.1 rx (fun j hj => by rw [show b + 2 + 3 * i + 1 = b + 3 + 3 * i by omega, hC.2.1 i j hi (by omega)]; exact namT_ri2 hN hi _)
      rw [show b + 2 + 3 * i + 1 = b + 3 + 3 * i by omega] at this
      rw [aNamed_i hk hi, ← fnd_cg (r := f (b + 3 + 3 * i)) (fun j hj => by rw [Nat.zero_add]; exact hC.2.1 i j hi (by omega))]
      exact this
    refine V_il1n dX11_named_0 ?_
    refine V_if_lt (tgt := 9) dX11_named_1 rfl (by first | assumption | (unfold ri at *; omega)) (fun b1 => ?_) (fun b1 => ?_)
    · exfalso; omega
    · refine V_il1n dX11_named_4 ?_
      refine V_iconst dX11_named_5 ?_
      refine V_icmp_le (tgt := 11) dX11_named_6 rfl (by first | assumption | (unfold ri at *; omega)) (by first | assumption | (unfold ri at *; omega)) (fun b6 => ?_) (fun b6 => ?_)
      · refine V_al0n dX11_named_11 ?_
        refine V_getR kk0 (by decide) fl_X11_29 hW.2.2.1 dX11_named_12 ?_
        refine V_getR (kb_0 hb) (kl_0 hb) fl_X11_150 (fb_0_0 hρ hb) dX11_named_15 ?_
        refine V_il1n dX11_named_18 ?_
        refine V_aald (k := i) (kb_1 hb) (by decide) (kl_1 hb) (by first | rfl | omega) (by omega) (by decide) hfx.1 dX11_named_19 ?_
        refine V_il2n dX11_named_20 ?_
        refine V_callV (as := [_]) ml_X11_154 im_X3_find se_X3_find hkd.1 (by decide) (kdlt hkd.1 (by decide)) dX11_named_21 rfl rfl (by decide) (by decide) (Nat.le_of_ble_eq_true rfl) (by decide) (by decide) rfl (hcf) ?_
        refine pq4 ?_
        exact V_ireturn rfl ⟨rfl, rfl, rfl, rfl⟩ dX11_named_24
      · exfalso; omega
  · have ea : aNamed T w x = -1 := by unfold aNamed; rw [if_neg (by omega), if_neg (by omega), if_neg (by omega), if_neg (by omega), if_neg (by omega)]
    rw [ea]
    refine V_il1n dX11_named_0 ?_
    refine V_if_lt (tgt := 9) dX11_named_1 rfl (by first | assumption | (unfold ri at *; omega)) (fun b1 => ?_) (fun b1 => ?_)
    · refine V_iconst dX11_named_9 ?_
      exact V_ireturn rfl ⟨rfl, rfl, rfl, rfl⟩ dX11_named_10
    · refine V_il1n dX11_named_4 ?_
      refine V_iconst dX11_named_5 ?_
      refine V_icmp_le (tgt := 11) dX11_named_6 rfl (by first | assumption | (unfold ri at *; omega)) (by first | assumption | (unfold ri at *; omega)) (fun b6 => ?_) (fun b6 => ?_)
      · exfalso; omega
      · refine V_iconst dX11_named_9 ?_
        exact V_ireturn rfl ⟨rfl, rfl, rfl, rfl⟩ dX11_named_10

/-- the other told text -/
def SPR (b : Nat) (ρ : RT) (f : IT) : Prop := ρ 0 4 = some (35 - b) ∧ ∀ i, i < 5 → f (35 - b + 2 + 3 * i) 0 = (mxK i : Int) ∧ f (35 - b + 2 + 3 * i) 1 = (wdK i : Int)
/-- the class between two calls, against the reference's cells φ, γ -/
def ICl (T : TT) (b : Nat) (ρ : RT) (f : IT) (g : JT) (φ : IT) (γ : JT) : Prop := TW T b ρ ∧ SPR b ρ f ∧ CT T b f ∧ (∃ fl ra, GI T fl ra f g) ∧ SrI T ρ f g ∧ TrI T f ∧ NSm T f φ ∧ SpI T f φ ∧ RSm T ρ f g φ γ ∧ TPm f φ ∧ FLm f φ ∧ NMK T
theorem TrI.cg {f' : IT} (h : TrI T f) (e : ∀ k, f' 72 k = f 72 k) : TrI T f' := by
  unfold TrI TrE at *
  rw [e 0, e 1, e 2, e 3, e 4, e 5, e 6]
  exact h
theorem SpI.cp {φ φ' : IT} (h : SpI T f φ) (e90 : φ' 104 90 = φ 104 90) (e91 : φ' 104 91 = φ 104 91) (e : φ' 142 = φ 142) : SpI T f φ' := by
  have ek : kB φ' = kB φ := by unfold kB; rw [e90, e91]
  unfold SpI at *
  rw [ek, e]
  exact h
theorem TPm.cg {f' φ φ' : IT} (h : TPm f φ) (e0 : f' 0 1 = f 0 1) (e1 : ∀ k, f' 1 k = f 1 k) (p0 : φ' 104 1 = φ 104 1) (p1 : φ' 105 = φ 105) : TPm f' φ' := by
  unfold TPm at *
  rw [e0, p0, p1]
  exact ⟨h.1, h.2.1, fun k hk => (e1 k).trans (h.2.2 k hk)⟩
theorem FLm.cg {f' φ φ' : IT} (h : FLm f φ) (e6 : f' 2 6 = f 2 6) (e7 : f' 2 7 = f 2 7) (p4 : φ' 104 4 = φ 104 4) (p5 : φ' 104 5 = φ 104 5) : FLm f' φ' := by
  unfold FLm at *
  rw [e6, e7, p4, p5]; exact h
theorem SPR.cg {ρ' : RT} {f' : IT} (hb : b = 5 ∨ b = 30) (h : SPR b ρ f) (e4 : ρ' 0 4 = ρ 0 4) (e : ∀ a k, 5 ≤ a → a ≤ 54 → f' a k = f a k) : SPR b ρ' f' := ⟨e4.trans h.1, fun i hi => by rw [e _ _ (by omega) (by omega), e _ _ (by omega) (by omega)]; exact h.2 i hi⟩
/-- the reference moves its scratch, the class nothing -/
theorem ICl.mv {f' φ φ' : IT} {g' γ γ' : JT} (h : ICl T b ρ f g φ γ) (e : ∀ a k, a < 104 → f' a k = f a k) (eg : ∀ a k, a < 104 → g' a k = g a k) (p : ∀ a k, 104 ≤ a → a ≤ 147 → scM a k = false → φ' a k = φ a k) (pg : ∀ a k, 104 ≤ a → a ≤ 147 → scM a k = false → γ' a k = γ a k) : ICl T b ρ f' g' φ' γ' := by
  obtain ⟨h1, h2, h3, ⟨fl, ra, h4⟩, h5, h6, h7, h8, h9, h10, h11, h12⟩ := h
  have hb := h1.2.1
  have ag : AG 0 f f' := AG.sm (fun k => e _ _ (by omega))
  have p142 : φ' 142 = φ 142 := funext fun k => p _ _ (by omega) (by omega) rfl
  refine ⟨h1, h2.cg hb rfl (fun a k _ _ => e a k (by omega)), h3.cg hb (fun a k _ _ => e a k (by omega)), ⟨fl, ra, h4.cg (fun a k _ _ => e a k (by omega)) (funext fun k => eg _ _ (by omega))⟩, h5.ag ag (fun k => e _ _ (by omega)) ⟨funext fun k => eg _ _ (by omega), funext fun k => eg _ _ (by omega), funext fun k => eg _ _ (by omega)⟩ (fun _ => rfl), h6.cg (fun k => e _ _ (by omega)), ?_, ?_, ?_, ?_, ?_, h12⟩
  · exact (h7.cg (e _ _ (by omega)) (e _ _ (by omega)) (fun a k _ => e _ _ (by omega))).cp (p _ _ (by omega) (by omega) rfl) (p _ _ (by omega) (by omega) rfl) p142
  · exact (h8.ag ag (fun k => e _ _ (by omega)) (fun k => e _ _ (by omega))).cp (p _ _ (by omega) (by omega) rfl) (p _ _ (by omega) (by omega) rfl) p142
  · refine (h9.cg (fun a k z => e _ _ (by unfold rcC at z; omega)) (fun a k z => eg _ _ (by unfold rcC at z; omega)) (fun _ => rfl)).cp (fun k z => p _ _ (by omega) (by omega) ?_) (funext fun k => p _ _ (by omega) (by omega) rfl) (funext fun k => p _ _ (by omega) (by omega) rfl) (funext fun k => p _ _ (by omega) (by omega) rfl) (pg _ _ (by omega) (by omega) rfl) (pg _ _ (by omega) (by omega) rfl)
    unfold scM
    simp
    omega
  · exact h10.cg (e _ _ (by omega)) (fun k => e _ _ (by omega)) (p _ _ (by omega) (by omega) rfl) (funext fun k => p _ _ (by omega) (by omega) rfl)
  · exact h11.cg (e _ _ (by omega)) (e _ _ (by omega)) (p _ _ (by omega) (by omega) rfl) (p _ _ (by omega) (by omega) rfl)
/-- questions: what a walk leaves -/
theorem ICl.qw {φ : IT} {γ : JT} {f' : IT} {g' : JT} {n : Int} (h : ICl T b ρ f g φ γ) (q : QW T b n f g f' g') : ICl T b ρ f' g' φ γ := by
  obtain ⟨h1, h2, h3, h4, h5, h6, h7, h8, h9, h10, h11, h12⟩ := h
  obtain ⟨q1, ⟨e, eg⟩, ag⟩ := q
  have hb := h1.2.1
  exact ⟨h1, h2.cg hb rfl (fun a k _ _ => e a k (by omega) (by omega)), h3.cg hb (fun a k _ _ => e a k (by omega) (by omega)), q1, h5.ag ag (fun k => e _ _ (by omega) (by omega)) ⟨eg _ (by omega) (by omega) (by omega) (by omega), eg _ (by omega) (by omega) (by omega) (by omega), eg _ (by omega) (by omega) (by omega) (by omega)⟩ (fun _ => rfl), h6.cg (fun k => e _ _ (by omega) (by omega)), h7.cg (e _ _ (by omega) (by omega)) (e _ _ (by omega) (by omega)) (fun a k _ => e _ _ (by omega) (by omega)), h8.ag ag (fun k => e _ _ (by omega) (by omega)) (fun k => e _ _ (by omega) (by omega)), h9.cg (fun a k z => e _ _ (by unfold rcC at z; omega) (by unfold rcC at z; omega)) (fun a k z => by unfold rcC at z; rw [eg a (by omega) (by omega) (by omega) (by omega)]) (fun _ => rfl), h10.cg (e _ _ (by omega) (by omega)) (fun k => e _ _ (by omega) (by omega)) rfl rfl, h11.cg (e _ _ (by omega) (by omega)) (e _ _ (by omega) (by omega)) rfl rfl, h12⟩
/-- what a search leaves -/
theorem ICl.qs {φ : IT} {γ : JT} {ρ' : RT} {f' : IT} {g' : JT} {n : Int} (h : ICl T b ρ f g φ γ) (q : QS T b n ρ f g ρ' f' g') : ICl T b ρ' f' g' φ γ := by
  obtain ⟨h1, h2, h3, h4, h5, h6, h7, h8, h9, h10, h11, h12⟩ := h
  obtain ⟨q1, q2, q3, q4, ag, er, e, eg⟩ := q
  have hb := h1.2.1
  have E : ∀ a k, ¬ (55 ≤ a ∧ a ≤ 61) → ¬ (66 ≤ a ∧ a ≤ 71) → f' a k = f a k := fun a k z1 z2 => e a k z1 (by omega) (by omega) (by omega) (by omega)
  exact ⟨q1, h2.cg hb (er _ _ (by omega)) (fun a k _ _ => E a k (by omega) (by omega)), q2, q3, q4, h6.cg (fun k => E _ _ (by omega) (by omega)), h7.cg (E _ _ (by omega) (by omega)) (E _ _ (by omega) (by omega)) (fun a k _ => E _ _ (by omega) (by omega)), h8.ag ag (fun k => E _ _ (by omega) (by omega)) (fun k => E _ _ (by omega) (by omega)), h9.cg (fun a k z => E _ _ (by unfold rcC at z; omega) (by unfold rcC at z; omega)) (fun a k z => by unfold rcC at z; rw [eg a (by omega) (by omega) (by omega) (by omega) (by omega) (by omega)]) (fun k => er _ _ (by omega)), h10.cg (E _ _ (by omega) (by omega)) (fun k => E _ _ (by omega) (by omega)) rfl rfl, h11.cg (E _ _ (by omega) (by omega)) (E _ _ (by omega) (by omega)) rfl rfl, h12⟩
/-- what a corner leaves -/
theorem ICl.qc {φ : IT} {γ : JT} {f' : IT} {g' : JT} {n : Int} (h : ICl T b ρ f g φ γ) (q : QC T b n f g f' g') : ICl T b ρ f' g' φ γ := by
  obtain ⟨h1, h2, h3, h4, h5, h6, h7, h8, h9, h10, h11, h12⟩ := h
  obtain ⟨q1, q2, ag, e, eg⟩ := q
  have hb := h1.2.1
  exact ⟨h1, h2.cg hb rfl (fun a k _ _ => e a k (by omega) (by omega)), q2, q1, h5.ag ag (fun k => e _ _ (by omega) (by omega)) ⟨eg _ (by omega) (by omega), eg _ (by omega) (by omega), eg _ (by omega) (by omega)⟩ (fun _ => rfl), h6.cg (fun k => e _ _ (by omega) (by omega)), h7.cg (e _ _ (by omega) (by omega)) (e _ _ (by omega) (by omega)) (fun a k _ => e _ _ (by omega) (by omega)), h8.ag ag (fun k => e _ _ (by omega) (by omega)) (fun k => e _ _ (by omega) (by omega)), h9.cg (fun a k z => e _ _ (by unfold rcC at z; omega) (by unfold rcC at z; omega)) (fun a k z => by unfold rcC at z; rw [eg a (by omega) (by omega)]) (fun _ => rfl), h10.cg (e _ _ (by omega) (by omega)) (fun k => e _ _ (by omega) (by omega)) rfl rfl, h11.cg (e _ _ (by omega) (by omega)) (e _ _ (by omega) (by omega)) rfl rfl, h12⟩
/-- what fits leaves -/
theorem ICl.qf {φ : IT} {γ : JT} {f' : IT} {g' : JT} {n : Int} (h : ICl T b ρ f g φ γ) (q : QF T b n φ f g f' g') : ICl T b ρ f' g' φ γ := by
  obtain ⟨h1, h2, h3, h4, h5, h6, h7, h8, h9, h10, h11, h12⟩ := h
  obtain ⟨q1, q2, q3, ag, e, eg⟩ := q
  have hb := h1.2.1
  have E : ∀ a k, ¬ (55 ≤ a ∧ a ≤ 61) → a ≠ 65 → ¬ (a = 73 ∧ 8 ≤ k) → ¬ (77 ≤ a ∧ a ≤ 80) → f' a k = f a k := fun a k z1 z2 z3 z4 => e a k z1 z2 (by omega) z4
  exact ⟨h1, h2.cg hb rfl (fun a k _ _ => E a k (by omega) (by omega) (by omega) (by omega)), q2, q1, h5.ag ag (fun k => E _ _ (by omega) (by omega) (by omega) (by omega)) ⟨eg _ (by omega) (by omega) (by omega), eg _ (by omega) (by omega) (by omega), eg _ (by omega) (by omega) (by omega)⟩ (fun _ => rfl), h6.cg (fun k => E _ _ (by omega) (by omega) (by omega) (by omega)), h7.cg (E _ _ (by omega) (by omega) (by omega) (by omega)) (E _ _ (by omega) (by omega) (by omega) (by omega)) (fun a k _ => E _ _ (by omega) (by omega) (by omega) (by omega)), q3, h9.cg (fun a k z => E _ _ (by unfold rcC at z; omega) (by unfold rcC at z; omega) (by unfold rcC at z; omega) (by unfold rcC at z; omega)) (fun a k z => by unfold rcC at z; rw [eg a (by omega) (by omega) (by omega)]) (fun _ => rfl), h10.cg (E _ _ (by omega) (by omega) (by omega) (by omega)) (fun k => E _ _ (by omega) (by omega) (by omega) (by omega)) rfl rfl, h11.cg (E _ _ (by omega) (by omega) (by omega) (by omega)) (E _ _ (by omega) (by omega) (by omega) (by omega)) rfl rfl, h12⟩
/-- what training leaves -/
theorem ICl.tr {φ : IT} {γ : JT} {f' : IT} {g' : JT} (h : ICl T b ρ f g φ γ) (q : TrI T f') (e : ∀ a k, a ≠ 72 → f' a k = f a k) (eg : ∀ a, a ≠ b + 22 → a ≠ b + 23 → g' a = g a) : ICl T b ρ f' g' φ γ := by
  obtain ⟨h1, h2, h3, ⟨fl, ra, h4⟩, h5, h6, h7, h8, h9, h10, h11, h12⟩ := h
  have hb := h1.2.1
  have ag : AG 0 f f' := AG.sm (fun k => e _ _ (by omega))
  exact ⟨h1, h2.cg hb rfl (fun a k _ _ => e a k (by omega)), h3.cg hb (fun a k _ _ => e a k (by omega)), ⟨fl, ra, h4.cg (fun a k _ _ => e a k (by omega)) (eg _ (by omega) (by omega))⟩, h5.ag ag (fun k => e _ _ (by omega)) ⟨eg _ (by omega) (by omega), eg _ (by omega) (by omega), eg _ (by omega) (by omega)⟩ (fun _ => rfl), q, h7.cg (e _ _ (by omega)) (e _ _ (by omega)) (fun a k _ => e _ _ (by omega)), h8.ag ag (fun k => e _ _ (by omega)) (fun k => e _ _ (by omega)), h9.cg (fun a k z => e _ _ (by unfold rcC at z; omega)) (fun a k z => by unfold rcC at z; rw [eg a (by omega) (by omega)]) (fun _ => rfl), h10.cg (e _ _ (by omega)) (fun k => e _ _ (by omega)) rfl rfl, h11.cg (e _ _ (by omega)) (e _ _ (by omega)) rfl rfl, h12⟩
/-- the racer's calls -/
theorem ICl.rk {φ φ' : IT} {γ γ' : JT} {f' : IT} {g' : JT} (h : ICl T b ρ f g φ γ) (q : RSm T ρ f' g' φ' γ') (e : RK f f') (eg : RG g g') (p : ∀ a k, ¬ (a = 104 ∧ 65 ≤ k) → a ≠ 137 → a ≠ 138 → a ≠ 147 → φ' a k = φ a k) (p9 : φ' 104 90 = φ 104 90 ∧ φ' 104 91 = φ 104 91) : ICl T b ρ f' g' φ' γ' := by
  obtain ⟨h1, h2, h3, ⟨fl, ra, h4⟩, h5, h6, h7, h8, h9, h10, h11, h12⟩ := h
  have hb := h1.2.1
  have E : ∀ a k, ¬ (62 ≤ a ∧ a ≤ 64) → ¬ (84 ≤ a ∧ a ≤ 103) → ¬ (a = 0 ∧ 5 ≤ k) → f' a k = f a k := fun a k z1 z2 z3 => e a k (by unfold rcC; omega)
  have ag : AG 0 f f' := AG.sm (fun k => E _ _ (by omega) (by omega) (by omega))
  have p142 : φ' 142 = φ 142 := funext fun k => p _ _ (by omega) (by omega) (by omega) (by omega)
  exact ⟨h1, h2.cg hb rfl (fun a k _ _ => E a k (by omega) (by omega) (by omega)), h3.cg hb (fun a k _ _ => E a k (by omega) (by omega) (by omega)), ⟨fl, ra, h4.cg (fun a k _ _ => E a k (by omega) (by omega) (by omega)) (eg _ (by omega) (by omega))⟩, h5.ag ag (fun k => E _ _ (by omega) (by omega) (by omega)) ⟨eg _ (by omega) (by omega), eg _ (by omega) (by omega), eg _ (by omega) (by omega)⟩ (fun _ => rfl), h6.cg (fun k => E _ _ (by omega) (by omega) (by omega)), (h7.cg (E _ _ (by omega) (by omega) (by omega)) (E _ _ (by omega) (by omega) (by omega)) (fun a k _ => E _ _ (by omega) (by omega) (by omega))).cp p9.1 p9.2 p142, (h8.ag ag (fun k => E _ _ (by omega) (by omega) (by omega)) (fun k => E _ _ (by omega) (by omega) (by omega))).cp p9.1 p9.2 p142, q, h10.cg (E _ _ (by omega) (by omega) (by omega)) (fun k => E _ _ (by omega) (by omega) (by omega)) (p _ _ (by omega) (by omega) (by omega) (by omega)) (funext fun k => p _ _ (by omega) (by omega) (by omega) (by omega)), h11.cg (E _ _ (by omega) (by omega) (by omega)) (E _ _ (by omega) (by omega) (by omega)) (p _ _ (by omega) (by omega) (by omega) (by omega)) (p _ _ (by omega) (by omega) (by omega) (by omega)), h12⟩
/-- the racer goes -/
theorem ICl.go {φ φ' : IT} {γ γ' : JT} {ρ' : RT} {f' : IT} {g' : JT} {n : Int} (h : ICl T b ρ f g φ γ) (q1 : TW T b ρ') (q : RSm T ρ' f' g' φ' γ') (q2 : ∃ fl ra, GI T fl ra f' g') (ag : AG n f f') (o : GOf b ρ f g ρ' f' g') (p : ∀ a k, ¬ (a = 104 ∧ 65 ≤ k) → a ≠ 137 → a ≠ 138 → a ≠ 147 → φ' a k = φ a k) (p9 : φ' 104 90 = φ 104 90 ∧ φ' 104 91 = φ 104 91) : ICl T b ρ' f' g' φ' γ' := by
  obtain ⟨h1, h2, h3, h4, h5, h6, h7, h8, h9, h10, h11, h12⟩ := h
  obtain ⟨er, e, eg⟩ := o
  have hb := h1.2.1
  have E : ∀ a k, ¬ (55 ≤ a ∧ a ≤ 64) → ¬ (84 ≤ a ∧ a ≤ 103) → ¬ (a = 0 ∧ 5 ≤ k) → f' a k = f a k := fun a k z1 z2 z3 => e a k (by unfold rcC; omega) (by omega)
  have p142 : φ' 142 = φ 142 := funext fun k => p _ _ (by omega) (by omega) (by omega) (by omega)
  exact ⟨q1, h2.cg hb (er _ _ (by omega)) (fun a k _ _ => E a k (by omega) (by omega) (by omega)), h3.cg hb (fun a k _ _ => E a k (by omega) (by omega) (by omega)), q2, h5.ag ag (fun k => E _ _ (by omega) (by omega) (by omega)) ⟨eg _ (by omega) (by omega) (by omega) (by omega) (by omega), eg _ (by omega) (by omega) (by omega) (by omega) (by omega), eg _ (by omega) (by omega) (by omega) (by omega) (by omega)⟩ (fun k => er _ _ (by omega)), h6.cg (fun k => E _ _ (by omega) (by omega) (by omega)), (h7.cg (E _ _ (by omega) (by omega) (by omega)) (E _ _ (by omega) (by omega) (by omega)) (fun a k _ => E _ _ (by omega) (by omega) (by omega))).cp p9.1 p9.2 p142, (h8.ag ag (fun k => E _ _ (by omega) (by omega) (by omega)) (fun k => E _ _ (by omega) (by omega) (by omega))).cp p9.1 p9.2 p142, q, h10.cg (E _ _ (by omega) (by omega) (by omega)) (fun k => E _ _ (by omega) (by omega) (by omega)) (p _ _ (by omega) (by omega) (by omega) (by omega)) (funext fun k => p _ _ (by omega) (by omega) (by omega) (by omega)), h11.cg (E _ _ (by omega) (by omega) (by omega)) (E _ _ (by omega) (by omega) (by omega)) (p _ _ (by omega) (by omega) (by omega) (by omega)) (p _ _ (by omega) (by omega) (by omega) (by omega)), h12⟩
/-- splits told or struck -/
theorem ICl.nk {φ φ' : IT} {γ : JT} {f' : IT} (h : ICl T b ρ f g φ γ) (q : NSm T f' φ') (e : NK f f') (hn : NFg f f') (p : ∀ a k, ¬ (a = 104 ∧ (k = 90 ∨ k = 91)) → a ≠ 142 → φ' a k = φ a k) (hs : f' = f → φ' = φ) : ICl T b ρ f' g φ' γ := by
  rcases hn with rfl | hn
  · rw [hs rfl]; exact h
  · obtain ⟨h1, h2, h3, ⟨fl, ra, h4⟩, h5, h6, h7, h8, h9, h10, h11, h12⟩ := h
    have hb := h1.2.1
    have E : ∀ a k, ¬ (73 ≤ a ∧ a ≤ 76) → f' a k = f a k := fun a k z => e a k (by omega) (by omega)
    have ag : AG 0 f f' := AG.sm (fun k => E _ _ (by omega))
    refine ⟨h1, h2.cg hb rfl (fun a k _ _ => E a k (by omega)), h3.cg hb (fun a k _ _ => E a k (by omega)), ⟨fl, ra, h4.cg (fun a k _ _ => E a k (by omega)) rfl⟩, h5.ag ag (fun k => E _ _ (by omega)) ⟨rfl, rfl, rfl⟩ (fun _ => rfl), h6.cg (fun k => E _ _ (by omega)), q, SpI.no hn (by rw [e 73 10 (by omega) (by omega), E 55 5 (by omega)]; exact h8.2.1), (h9.cg (fun a k z => E _ _ (by unfold rcC at z; omega)) (fun a k z => rfl) (fun _ => rfl)).cp (fun k z => p _ _ (by omega) (by omega)) (funext fun k => p _ _ (by omega) (by omega)) (funext fun k => p _ _ (by omega) (by omega)) (funext fun k => p _ _ (by omega) (by omega)) rfl rfl, h10.cg (E _ _ (by omega)) (fun k => E _ _ (by omega)) (p _ _ (by omega) (by omega)) (funext fun k => p _ _ (by omega) (by omega)), h11.cg (E _ _ (by omega)) (E _ _ (by omega)) (p _ _ (by omega) (by omega)) (p _ _ (by omega) (by omega)), h12⟩
/-- the tape -/
theorem ICl.fd {φ φ' : IT} {γ : JT} {f' : IT} (h : ICl T b ρ f g φ γ) (q : TPm f' φ') (e : ∀ a k, a ≠ 1 → ¬ (a = 0 ∧ k = 1) → f' a k = f a k) (p : ∀ a k, ¬ (a = 104 ∧ k ≤ 2) → a ≠ 105 → φ' a k = φ a k) : ICl T b ρ f' g φ' γ := by
  obtain ⟨h1, h2, h3, ⟨fl, ra, h4⟩, h5, h6, h7, h8, h9, h10, h11, h12⟩ := h
  have hb := h1.2.1
  have ag : AG 0 f f' := AG.sm (fun k => e _ _ (by omega) (by omega))
  have p142 : φ' 142 = φ 142 := funext fun k => p _ _ (by omega) (by omega)
  exact ⟨h1, h2.cg hb rfl (fun a k _ _ => e a k (by omega) (by omega)), h3.cg hb (fun a k _ _ => e a k (by omega) (by omega)), ⟨fl, ra, h4.cg (fun a k _ _ => e a k (by omega) (by omega)) rfl⟩, h5.ag ag (fun k => e _ _ (by omega) (by omega)) ⟨rfl, rfl, rfl⟩ (fun _ => rfl), h6.cg (fun k => e _ _ (by omega) (by omega)), (h7.cg (e _ _ (by omega) (by omega)) (e _ _ (by omega) (by omega)) (fun a k _ => e _ _ (by omega) (by omega))).cp (p _ _ (by omega) (by omega)) (p _ _ (by omega) (by omega)) p142, (h8.ag ag (fun k => e _ _ (by omega) (by omega)) (fun k => e _ _ (by omega) (by omega))).cp (p _ _ (by omega) (by omega)) (p _ _ (by omega) (by omega)) p142, (h9.cg (fun a k z => e _ _ (by unfold rcC at z; omega) (by unfold rcC at z; omega)) (fun a k z => rfl) (fun _ => rfl)).cp (fun k z => p _ _ (by omega) (by omega)) (funext fun k => p _ _ (by omega) (by omega)) (funext fun k => p _ _ (by omega) (by omega)) (funext fun k => p _ _ (by omega) (by omega)) rfl rfl, q, h11.cg (e _ _ (by omega) (by omega)) (e _ _ (by omega) (by omega)) (p _ _ (by omega) (by omega)) (p _ _ (by omega) (by omega)), h12⟩
/-- the reference between two calls -/
def IRf (T : TT) (φ : IT) : Prop := MT T φ ∧ TxK φ
theorem tx_sc {a k : Nat} (h : tx a k = true) : scM a k = false ∧ 104 ≤ a ∧ ¬ (a = 104 ∧ 20 ≤ k) ∧ a ≤ 132 := by
  refine ⟨scM_tx h, ?_⟩
  unfold tx half at h
  simp only [Bool.or_eq_true, Bool.and_eq_true, decide_eq_true_eq] at h
  rcases h with h | h
  · omega
  · (repeat' split at h) <;> omega
theorem IRf.mv {φ φ' : IT} (h : IRf T φ) (p : ∀ a k, 104 ≤ a → ¬ (a = 104 ∧ 65 ≤ k) → ¬ (a = 104 ∧ k = 2) → a ≤ 132 → φ' a k = φ a k) : IRf T φ' := by
  obtain ⟨h1, h2⟩ := h
  refine ⟨fun a k ht => ?_, ?_⟩
  · obtain ⟨t1, t2, t3, t4⟩ := tx_sc ht
    have t5 : ¬ (a = 104 ∧ k = 2) := fun z => by rw [z.1, z.2] at ht; cases ht
    rw [p a k t2 (by omega) t5 t4]; exact h1 a k ht
  · obtain ⟨k1, k2, k3, k4, k5, k6⟩ := h2
    refine ⟨?_, fun k hk => ?_, fun k hk => ?_, ?_, fun k => ?_, fun k => ?_⟩
    · rw [p _ _ (by omega) (by omega) (by omega) (by omega)]; exact k1
    · rw [p _ _ (by omega) (by omega) (by omega) (by omega)]; exact k2 k hk
    · rw [p _ _ (by omega) (by omega) (by omega) (by omega)]; exact k3 k hk
    · unfold KwK at *
      rw [p 104 8 (by omega) (by omega) (by omega) (by omega), p 104 9 (by omega) (by omega) (by omega) (by omega)]; exact k4
    · rw [p 107 _ (by omega) (by omega) (by omega) (by omega), p 112 _ (by omega) (by omega) (by omega) (by omega), p 116 _ (by omega) (by omega) (by omega) (by omega), p 120 _ (by omega) (by omega) (by omega) (by omega), p 124 _ (by omega) (by omega) (by omega) (by omega)]; exact k5 k
    · rw [p 110 _ (by omega) (by omega) (by omega) (by omega), p 111 _ (by omega) (by omega) (by omega) (by omega), p 127 _ (by omega) (by omega) (by omega) (by omega)]; exact k6 k
end CINV

