section CBEST
variable {T : TT} {b : Nat} {ρ : RT} {f : IT} {g : JT}
theorem SrI.ag {ρ' : RT} {f' : IT} {g' : JT} {n : Int} (h : SrI T ρ f g) (ha : AG n f f') (e1 : ∀ k, f' 66 k = f 66 k) (e2 : g' 66 = g 66 ∧ g' 68 = g 68 ∧ g' 69 = g 69) (e3 : ∀ k, ρ' 66 k = ρ 66 k) : SrI T ρ' f' g' := by
  obtain ⟨⟨wA, wB, rA, rB, ⟨s2, s3, s4, s5⟩, sw⟩, hz, i7, i8, i9, i10, i11, i12, hI⟩ := h
  unfold SrI
  rw [e2.1, e2.2.1, e2.2.2, e1 7, e1 8, e1 9, e1 10, e1 11]
  refine ⟨⟨wA, wB, rA, rB, ⟨(e3 2).trans s2, (e3 3).trans s3, (e3 4).trans s4, (e3 5).trans s5⟩, sw⟩, hz, i7, ?_, i9, i10, i11, i12, fun he => ?_⟩
  · rcases ha.1 with a | a
    · rw [a]; exact i8
    · omega
  · rcases ha.1 with a | a
    · rw [a] at he
      obtain ⟨m, h, j1, j2, j3, j4, j5, j6⟩ := hI he
      exact ⟨m, h, j1, j2, j3, j4, j5, fun c hC hE g4 g3 ht => j6 c hC (hE.cg (fun k => (a k).symm)) ((a 4).symm.trans g4) ((a 3).symm.trans g3) ht⟩
    · omega
theorem SrI.lu {fl ra : Bool} {sk wt : Int} {f' : IT} (h : SrI T ρ f g) (hl : LU T fl ra sk wt f g f') : SrI T ρ f' g := h.ag hl.ag (fun k => hl.1 66 k (by omega) (by omega)) ⟨rfl, rfl, rfl⟩ (fun _ => rfl)
/-- what a question that searches leaves -/
def QS (T : TT) (b : Nat) (n : Int) (ρ : RT) (f : IT) (g : JT) (ρ' : RT) (f' : IT) (g' : JT) : Prop := TW T b ρ' ∧ CT T b f' ∧ (∃ fl ra, GI T fl ra f' g') ∧ SrI T ρ' f' g' ∧ AG n f f' ∧ (∀ a k, ¬ (a = 66 ∧ 2 ≤ k) → ρ' a k = ρ a k) ∧ (∀ a k, ¬ (55 ≤ a ∧ a ≤ 61) → a ≠ 66 → a ≠ 67 → a ≠ 70 → a ≠ 71 → f' a k = f a k) ∧ (∀ a, a ≠ 60 → a ≠ b + 22 → a ≠ b + 23 → a ≠ 66 → a ≠ 68 → a ≠ 69 → g' a = g a)
theorem QS.rf (hW : TW T b ρ) (hC : CT T b f) {fl ra : Bool} (hG : GI T fl ra f g) (hI : SrI T ρ f g) {n : Int} (hn : 0 ≤ n) : QS T b n ρ f g ρ f g := ⟨hW, hC, ⟨fl, ra, hG⟩, hI, AG.rf.wk hn, fun _ _ _ => rfl, fun _ _ _ _ _ _ _ => rfl, fun _ _ _ _ _ _ _ => rfl⟩
theorem c0_cr (hk : TOK T) {m : Nat} (hm : m < nMe T) {ra : Bool} {sk : Int} (hsk : 0 ≤ sk ∧ sk ≤ 30) : CR (c0 T ra sk m) := (c0_ok hk hm hsk).1
theorem c_best (hW : TW T b ρ) (hC : CT T b f) {fl0 ra0 : Bool} (hG : GI T fl0 ra0 f g) (hI : SrI T ρ f g) (h5 : f 55 5 < 1000000) {sk : Int} {ra : Bool} (hs : f 0 5 = sk) (hsk : 0 ≤ sk ∧ sk ≤ 30) (hr : f 0 6 = bz ra) {m h : Int} (rm : ri m) (rh : ri h) : C_X11_best [.ref 0, .int (iz m), .int (iz h)] ρ f g (fun r ρ' f' g' => r = some (.int (iz (aBest T ra sk m h))) ∧ QS T b 1 ρ f g ρ' f' g') := by
  have hk := hW.2.2.2.2.1
  have hρ := hW.1
  have hb := hW.2.1
  refine Ct.ofV (by decide) rfl (Nat.le_of_ble_eq_true rfl) ?_
  unfold aBest
  cases c : (okM T m && okH T h) with
  | false =>
    rw [if_neg Bool.false_ne_true]
    refine V_al0n dX11_best_0 ?_
    refine V_il1n dX11_best_1 ?_
    refine V_il2n dX11_best_2 ?_
    refine V_callV (as := [_, _]) ml_X11_274 im_X11_canHold se_X11_canHold kk0 (by decide) (by decide) dX11_best_3 rfl rfl (by decide) (by decide) (Nat.le_of_ble_eq_true rfl) (by decide) (by decide) rfl (c_canHold hW hC rm rh) ?_
    refine pq4 ?_
    refine V_bf (tgt := 11) dX11_best_6 rfl (fun b6 => ?_) (fun b6 => ?_)
    · rw [c] at b6; cases b6
    · refine V_iconst dX11_best_9 ?_
      exact V_ireturn rfl ⟨rfl, QS.rf hW hC hG hI (by omega)⟩ dX11_best_10
  | true =>
    rw [if_pos rfl]
    have c2 := c
    rw [Bool.and_eq_true] at c2
    obtain ⟨mN, rfl, hm⟩ := okM_at c2.1
    obtain ⟨hN, rfl, hh⟩ := okH_at c2.2
    rw [Int.toNat_natCast, Int.toNat_natCast]
    refine V_al0n dX11_best_0 ?_
    refine V_il1n dX11_best_1 ?_
    refine V_il2n dX11_best_2 ?_
    refine V_callV (as := [_, _]) ml_X11_274 im_X11_canHold se_X11_canHold kk0 (by decide) (by decide) dX11_best_3 rfl rfl (by decide) (by decide) (Nat.le_of_ble_eq_true rfl) (by decide) (by decide) rfl (c_canHold hW hC rm rh) ?_
    refine pq4 ?_
    refine V_bf (tgt := 11) dX11_best_6 rfl (fun b6 => ?_) (fun b6 => ?_)
    · refine V_al0n dX11_best_11 ?_
      refine V_il1n dX11_best_12 ?_
      refine V_callV (as := [_]) ml_X11_186 im_X11_makeReady se_X11_makeReady kk0 (by decide) (by decide) dX11_best_13 rfl rfl (by decide) (by decide) (Nat.le_of_ble_eq_true rfl) (by decide) (by decide) rfl (c_makeReady hW hC hG h5 hm hs hsk hr) ?_
      rintro r13 ρ13 f13 g13 ⟨rfl, s13_0, s13_1, q1⟩
      obtain rfl := s13_0.symm
      obtain rfl := s13_1.symm
      have hC2 : CT T b f13 := hC.cg hb (fun a k h1 h2 => q1.1 a k (by omega) (by omega))
      have hsk2 := c_seek (c := c0 T ra sk mN) (q := 0) hW hC2 (c0_cr hk hm hsk) q1.2.1 q1.ge hm hh rfl (by omega) (hI.lu q1)
      refine V_al0n dX11_best_16 ?_
      refine V_getR kk0 (by decide) fl_X11_86 (fx_0_16 hρ) dX11_best_17 ?_
      refine V_il1n dX11_best_20 ?_
      refine V_il2n dX11_best_21 ?_
      refine V_iconst dX11_best_22 ?_
      refine V_callV (as := [_, _, _]) ml_X11_277 im_X4_seek se_X4_seek kk66 (by decide) (by decide) dX11_best_23 rfl rfl (by decide) (by decide) (Nat.le_of_ble_eq_true rfl) (by decide) (by decide) rfl (hsk2) ?_
      rintro r23 ρ23 f23 g23 ⟨rfl, t1, t2, t3, t4, t5, t6, t7, t8⟩
      exact V_ireturn rfl ⟨rfl, t1, t2, ⟨false, ra, t3⟩, t4, (q1.ag.tr (AG.sm (fun k => t7 55 k (by omega) (by omega) (by omega) (by omega) (by omega)))).wk (by omega), t6, fun a k z1 z2 z3 z4 z5 => (t7 a k (by omega) z2 z3 z4 z5).trans (q1.1 a k (by omega) (by omega)), t8⟩ dX11_best_26
    · rw [c] at b6; cases b6
end CBEST

