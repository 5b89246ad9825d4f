/-- the knots from i on, c of them, one behind another -/
def evs (T : TT) (nm : Nat → Int) : Nat → Nat → (Nat → Int) → Option (Nat → Int)
  | 0, _, val => some val
  | c + 1, i, val => match kv T nm val i with
    | none => none
    | some v => evs T nm c (i + 1) (va_up val i v)
theorem kv_congr {T : TT} {nm val val' : Nat → Int} {lo i : Nat} (hk : KN T lo i) (h : ∀ j, lo ≤ j → j < i → val j = val' j) : kv T nm val i = kv T nm val' i := by
  obtain ⟨h0, h64, ho, hk0, hk1, hk2, hk3⟩ := hk
  unfold kv
  split
  · rfl
  split
  · rfl
  have e1 : val (T 131 i).toNat = val' (T 131 i).toNat := h _ (by omega) (by omega)
  split
  · rw [e1]
  · have e2 : val (T 132 i).toNat = val' (T 132 i).toNat := h _ (by omega) (by omega)
    rw [e1, e2]
theorem evs_congr {T : TT} {nm : Nat → Int} {lo : Nat} : ∀ (c i : Nat) (val val' : Nat → Int), (∀ j, i ≤ j → j < i + c → KN T lo j) → (∀ j, lo ≤ j → j < i → val j = val' j) → (evs T nm c i val = none ∧ evs T nm c i val' = none) ∨ ∃ u u', evs T nm c i val = some u ∧ evs T nm c i val' = some u' ∧ ∀ j, lo ≤ j → j < i + c → u j = u' j
  | 0, i, val, val', _, h => Or.inr ⟨val, val', rfl, rfl, h⟩
  | c + 1, i, val, val', hk, h => by
    have e := kv_congr (nm := nm) (hk i (by omega) (by omega)) h
    simp only [evs, e]
    cases hv : kv T nm val' i with
    | none => exact Or.inl ⟨rfl, rfl⟩
    | some v =>
      have := evs_congr (nm := nm) c (i + 1) (va_up val i v) (va_up val' i v) (fun j h1 h2 => hk j (by omega) (by omega)) (fun j h1 h2 => by
        unfold va_up
        split
        · rfl
        · exact h j h1 (by omega))
      rw [show i + 1 + c = i + (c + 1) by omega] at this
      exact this
/-- a law's worth by the names; none: an error -/
def lawv (T : TT) (nm : Nat → Int) (w : Nat) : Option Int := (evs T nm (T 129 w - T 128 w).toNat (T 128 w).toNat (fun _ => 0)).map (fun val => val (T 129 w - 1).toNat)
theorem TOK.kn {T : TT} (h : TOK T) {w : Nat} (hw : w < 8) (ht : T 127 w = 1) : ∃ lo hi : Nat, T 128 w = (lo : Int) ∧ T 129 w = (hi : Int) ∧ lo < hi ∧ hi ≤ 64 ∧ ∀ i, lo ≤ i → i < hi → KN T lo i := by
  obtain ⟨h1, h2, h3, h4⟩ := (h.law hw).2 ht
  refine ⟨(T 128 w).toNat, (T 129 w).toNat, by omega, by omega, by omega, by omega, fun i hi1 hi2 => ?_⟩
  obtain ⟨k1, k2, k3, k4, k5⟩ := h4 i (by omega) (by omega)
  exact ⟨hi1, by omega, k1, k2, k3, fun h => by have := k4 h; omega, fun h => by have := k5 h; omega⟩
theorem w_lawOf {T : TT} {Q : QT} {ρ : RT} {f0 : IT} {g0 : JT} (hρ : Fx ρ) (hT : MT T f0) {w lo hi : Nat} (hw : w < 8) (hhi : T 129 w = (hi : Int)) (h64 : hi ≤ 64) (hlo : lo < hi) (hk : ∀ i, lo ≤ i → i < hi → KN T lo i) {nm : Nat → Int} (hn : ∀ k, k < 8 → g0 135 k = nm k ∧ inB (nm k)) {R : Option (Nat → Int)}
    (hQ : ∀ g : JT, (∀ a, a ≠ 136 → g a = g0 a) → ∀ v : Int, inB v → (R = none → v = 0) → (∀ u, R = some u → v = u (hi - 1)) → Q (some (.long (lz v))) ρ (u2 f0 104 66 (bz R.isNone)) g) (i : Nat) (hi1 : lo ≤ i) (hi2 : i ≤ hi) (g : JT) (hg : ∀ a, a ≠ 136 → g a = g0 a) (hb : ∀ j, lo ≤ j → j < i → inB (g 136 j)) (e : Bool) (he1 : e = true → R = none) (he2 : e = false → R = evs T nm (hi - i) i (g 136)) :
    V_X12_lawOf Q 12 [.ref 104, .int (iz (w : Int)), .int (iz (i : Int))] [] ρ (u2 f0 104 66 (bz e)) g := by
  have hT1 : MT T (u2 f0 104 66 (bz e)) := hT.km (KM.u2 rfl KM.rf)
  have hl : u2 f0 104 66 (bz e) 129 w = (hi : Int) := (hT1.at rfl hw).trans hhi
  refine V_il2n dX12_lawOf_12 ?_
  refine V_al0n dX12_lawOf_13 ?_
  refine V_getR kk104 (by decide) fl_X12_87 (fx_104_52 hρ) dX12_lawOf_14 ?_
  refine V_il1n dX12_lawOf_17 ?_
  refine V_iald (k := w) kk129 (by decide) (by first | rfl | omega) (by omega) (by first | decide | assumption | omega) hl dX12_lawOf_18 ?_
  refine V_icmp_ge (tgt := 39) dX12_lawOf_19 rfl (by first | assumption | (unfold ri at *; omega)) (by first | assumption | (unfold ri at *; omega)) (fun b19 => ?_) (fun b19 => ?_)
  · refine V_al0n dX12_lawOf_39 ?_
    refine V_getZ kk104 (by decide) fl_X12_386 u2_s dX12_lawOf_40 ?_
    refine V_bt (tgt := 50) dX12_lawOf_43 rfl (fun b43 => ?_) (fun b43 => ?_)
    · have h5 := he2 b43
      rw [show hi - i = 0 by omega] at h5
      simp only [evs] at h5
      refine V_al0n dX12_lawOf_50 ?_
      refine V_getR kk104 (by decide) fl_X12_109 (fx_104_65 hρ) dX12_lawOf_51 ?_
      refine V_al0n dX12_lawOf_54 ?_
      refine V_getR kk104 (by decide) fl_X12_87 (fx_104_52 hρ) dX12_lawOf_55 ?_
      refine V_il1n dX12_lawOf_58 ?_
      refine V_iald (k := w) kk129 (by decide) (by first | rfl | omega) (by omega) (by first | decide | assumption | omega) hl dX12_lawOf_59 ?_
      refine V_iconst dX12_lawOf_60 ?_
      refine V_isub dX12_lawOf_61 ?_
      refine V_lald (k := hi - 1) kk136 (by decide) (by first | rfl | omega) (by omega) (by first | decide | assumption | omega) rfl dX12_lawOf_62 ?_
      exact V_lreturn rfl (by
have hh := hQ g hg
subst h5
simp only [Option.isNone] at hh
rw [b43]
refine hh _ ?_ ?_ ?_
· first | exact hb _ (by omega) (by omega) | (unfold inB; omega)
· intro h9; first | rfl | cases h9
· intro u h9; first | (cases h9; rfl) | cases h9) dX12_lawOf_63
    · have h5 := he1 b43
      refine V_lconst (a := 0) dX12_lawOf_46 rfl ?_
      refine V_goto (tgt := 63) dX12_lawOf_47 rfl ?_
      exact V_lreturn rfl (by
have hh := hQ g hg
subst h5
simp only [Option.isNone] at hh
rw [b43]
refine hh _ ?_ ?_ ?_
· first | exact hb _ (by omega) (by omega) | (unfold inB; omega)
· intro h9; first | rfl | cases h9
· intro u h9; first | (cases h9; rfl) | cases h9) dX12_lawOf_63
  · refine V_al0n dX12_lawOf_22 ?_
    refine V_getR kk104 (by decide) fl_X12_109 (fx_104_65 hρ) dX12_lawOf_23 ?_
    refine V_il2n dX12_lawOf_26 ?_
    refine V_al0n dX12_lawOf_27 ?_
    refine V_il2n dX12_lawOf_28 ?_
    refine V_callV (as := [_]) ml_X12_426 im_X12_valueOf se_X12_valueOf kk104 (by decide) (by decide) dX12_lawOf_29 rfl rfl (by decide) (by decide) (Nat.le_of_ble_eq_true rfl) (by decide) (by decide) rfl (c_valueOf hρ hT1 (hk i hi1 (by omega)) (e := e) u2_s (nm := nm) (val := g 136) (fun k hk => by rw [hg 135 (by omega)]; exact hn k hk) (fun j h1 h2 => ⟨rfl, hb j h1 h2⟩)) ?_
    rintro r29 ρ29 f29 g29 ⟨e', v, rfl, hv, s29_0, s29_1, rfl, h1, h2⟩
    obtain rfl := s29_0.symm
    obtain rfl := s29_1.symm
    refine V_last (k := i) kk136 (by decide) (by first | rfl | omega) (by omega) (by first | decide | assumption | omega) dX12_lawOf_32 ?_
    have uu : u2 (u2 f0 104 66 (bz e)) 104 66 (bz e') = u2 f0 104 66 (bz e') := by funext b j; unfold u2; split <;> rfl
    rw [uu]
    refine V_inc2 dX12_lawOf_33 (by decide) rfl ?_
    refine V_goto (tgt := 12) dX12_lawOf_36 rfl ?_
    exact w_lawOf hρ hT hw hhi h64 hlo hk hn hQ (i + 1) (by omega) (by omega) _ (fun a ha => by rw [u2_row ha]; exact hg a ha) (fun j h3 h4 => by unfold u2; split; exact hv; exact hb j h3 (by omega)) e' (fun h => by
    cases e
    · have h5 := he2 rfl
      rw [show hi - i = (hi - (i + 1)) + 1 by omega] at h5
      simp only [evs, h2 rfl, h, if_true] at h5
      exact h5
    · exact he1 rfl) (fun h => by
    cases e
    · have h5 := he2 rfl
      rw [show hi - i = (hi - (i + 1)) + 1 by omega] at h5
      simp only [evs, h2 rfl, h] at h5
      rw [h5, u2_self]
      rfl
    · rw [h1 rfl] at h; cases h)
termination_by hi - i

