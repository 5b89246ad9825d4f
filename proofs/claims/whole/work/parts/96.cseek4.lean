section SEEK4
variable {T : TT} {c : CC} {b : Nat} {ρ : RT} {f : IT} {g : JT}
/-- what a seek leaves -/
def SKg (b : Nat) (ρ : RT) (f : IT) (g : JT) (ρ' : RT) (f' : IT) (g' : JT) : Prop := (∀ a k, ¬ (a = 66 ∧ 2 ≤ k) → ρ' a k = ρ a k) ∧ (∀ a k, a ≠ 61 → a ≠ 66 → a ≠ 67 → a ≠ 70 → a ≠ 71 → f' a k = f a k) ∧ (∀ a, a ≠ 60 → a ≠ b + 22 → a ≠ b + 23 → a ≠ 66 → a ≠ 68 → a ≠ 69 → g' a = g a)
theorem w_sk132 {Q : QT} (hk : TOK T) (hC : CR c) {h : Nat} (hh : h < nHo T) {q : Int} {st : Nat} (hst : st < 2501) (h12 : g 66 12 = bwV T c (T 117 h) q st) (hQ : Q (some (.int (iz (skA T c (T 117 h) q st)))) ρ f g) : V_X4_seek Q 132 [.ref 66, .null, .null, .null, .null, .null] [] ρ f g := by
  rcases bwV_sk hk hC hh (q := q) hst with ⟨e1, e2⟩ | ⟨e1, e2, e3⟩
  · rw [e1] at h12
    rw [e2] at hQ
    refine V_al0n dX4_seek_132 ?_
    refine V_getJ kk66 (by decide) fl_X4_53 h12 dX4_seek_133 ?_
    refine V_ldc2_w (a := -1) kl_X4_51 rfl dX4_seek_136 ?_
    refine V_lif_ne (tgt := 148) dX4_seek_139 dX4_seek_140 rfl (by unfold rl; omega) (by unfold rl; omega) (fun b140 => ?_) (fun b140 => ?_)
    · exact absurd rfl b140
    · refine V_bipush dX4_seek_143 rfl ?_
      refine V_goto (tgt := 156) dX4_seek_145 rfl ?_
      exact V_ireturn rfl hQ dX4_seek_156
  · rw [← e3] at hQ
    generalize bwV T c (T 117 h) q st = B at *
    refine V_al0n dX4_seek_132 ?_
    refine V_getJ kk66 (by decide) fl_X4_53 h12 dX4_seek_133 ?_
    refine V_ldc2_w (a := -1) kl_X4_51 rfl dX4_seek_136 ?_
    refine V_lif_ne (tgt := 148) dX4_seek_139 dX4_seek_140 rfl (by unfold rl; omega) (by unfold rl; omega) (fun b140 => ?_) (fun b140 => ?_)
    · refine V_al0n dX4_seek_148 ?_
      refine V_getJ kk66 (by decide) fl_X4_53 h12 dX4_seek_149 ?_
      refine V_bipush dX4_seek_152 rfl ?_
      refine V_lshr dX4_seek_154 (lz_shrE (b := 24) (v := B / 16777216) (by unfold rl; omega) rfl (by omega) rfl) ?_
      refine V_l2i dX4_seek_155 ?_
      exact V_ireturn rfl hQ dX4_seek_156
    · exfalso; omega
theorem SrI.set (hk : TOK T) (hP : TPF T) (hC : CR c) (hG : GI T c.1 c.2.1 f g) (hE : GE T c f) {m h : Nat} (hm : m < nMe T) (hh : h < nHo T) (ht : c.2.2.2.2 = T 113 m) {q : Int} (hq : 0 ≤ q ∧ q ≤ 9) {wA wB rA rB : Nat} (hS : SWp ρ wA wB rA rB) (hz : ∀ j, j < 2501 → g 68 j = 0 ∧ g 69 j = 0) (h7 : f 66 7 = 0) (h8 : f 66 8 = f 55 5) (h9 : f 66 9 = (m : Int)) (h10 : f 66 10 = (h : Int)) (h11 : f 66 11 = q) (h12 : g 66 12 = bwV T c (T 117 h) q (stM T m)) : SrI T ρ f g := by
  have hm5 := hk.me
  have hh3 := hk.ho
  have hb := bwV_sk hk hC hh (q := q) (stM_lt hk hm)
  refine ⟨⟨wA, wB, rA, rB, hS⟩, hz, h7, by rw [h8]; have := hG.2.2.2.2.1; omega, by rw [h9]; unfold ri; omega, by rw [h10]; unfold ri; omega, by rw [h11]; unfold ri; omega, by rw [h12]; unfold rl; omega, fun _ => ⟨m, h, hm, hh, h9, h10, by rw [h11]; exact hq, fun c' _ hE' g4 g3 ht' => ?_⟩⟩
  rw [h12, h11]
  refine bwV_ceq hk hP ⟨bz_inj (hG.1.symm.trans g4), bz_inj (hG.2.1.symm.trans g3), ?_, ?_, ht.trans ht'.symm⟩ _ _ _
  · rw [← hE.2, ← hE'.2]
  · rw [← hE.1, ← hE'.1]
theorem c_seek (hW : TW T b ρ) (hCt : CT T b f) (hC : CR c) (hG : GI T c.1 c.2.1 f g) (hE : GE T c f) {m h : Nat} (hm : m < nMe T) (hh : h < nHo T) (ht : c.2.2.2.2 = T 113 m) {q : Int} (hq : 0 ≤ q ∧ q ≤ 9) (hI : SrI T ρ f g) :
    C_X4_seek [.ref 66, .int (iz (m : Int)), .int (iz (h : Int)), .int (iz q)] ρ f g (fun r ρ' f' g' => r = some (.int (iz (skA T c (T 117 h) q (stM T m)))) ∧ TW T b ρ' ∧ CT T b f' ∧ GI T c.1 c.2.1 f' g' ∧ SrI T ρ' f' g' ∧ g' 66 12 = bwV T c (T 117 h) q (stM T m) ∧ SKg b ρ f g ρ' f' g') := by
  have hk := hW.2.2.2.2.1
  have hP := hW.2.2.2.2.2
  have hρ := hW.1
  have hb := hW.2.1
  have hm5 := hk.me
  have hh3 := hk.ho
  have hst := stM_lt hk hm
  have hg5 := hG.2.2.2.2.1
  have hI0 := hI
  obtain ⟨⟨wA, wB, rA, rB, hS⟩, hz, i7, i8, i9, i10, i11, i12, hI⟩ := hI
  refine Ct.ofV (by decide) rfl (Nat.le_of_ble_eq_true rfl) ?_
  have X : V_X4_seek (fun r ρ' f' g' => r = some (.int (iz (skA T c (T 117 h) q (stM T m)))) ∧ TW T b ρ' ∧ CT T b f' ∧ GI T c.1 c.2.1 f' g' ∧ SrI T ρ' f' g' ∧ g' 66 12 = bwV T c (T 117 h) q (stM T m) ∧ SKg b ρ f g ρ' f' g') 38 [.ref 66, .int (iz (m : Int)), .int (iz (h : Int)), .int (iz q), .null, .null] [] ρ f g := by
    clear hI
    obtain ⟨kA, kB, kC, kD⟩ := hS.kd
    have hS0 := hS
    obtain ⟨⟨s2, s3, s4, s5⟩, sw1, sw2⟩ := hS
    have fo : ∀ a k, a ≠ 66 → u2 (u2 (u2 (u2 f 66 8 (f 55 5)) 66 9 (m : Int)) 66 10 (h : Int)) 66 11 q a k = f a k := fun a k z => by rw [u2_o (by omega), u2_o (by omega), u2_o (by omega), u2_o (by omega)]
    have f7 : u2 (u2 (u2 (u2 f 66 8 (f 55 5)) 66 9 (m : Int)) 66 10 (h : Int)) 66 11 q 66 7 = 0 := by rw [u2_o (by omega), u2_o (by omega), u2_o (by omega), u2_o (by omega)]; exact i7
    have f8 : u2 (u2 (u2 (u2 f 66 8 (f 55 5)) 66 9 (m : Int)) 66 10 (h : Int)) 66 11 q 66 8 = f 55 5 := by rw [u2_o (by omega), u2_o (by omega), u2_o (by omega), u2_s]
    have f9 : u2 (u2 (u2 (u2 f 66 8 (f 55 5)) 66 9 (m : Int)) 66 10 (h : Int)) 66 11 q 66 9 = (m : Int) := by rw [u2_o (by omega), u2_o (by omega), u2_s]
    have f10 : u2 (u2 (u2 (u2 f 66 8 (f 55 5)) 66 9 (m : Int)) 66 10 (h : Int)) 66 11 q 66 10 = (h : Int) := by rw [u2_o (by omega), u2_s]
    have f11 : u2 (u2 (u2 (u2 f 66 8 (f 55 5)) 66 9 (m : Int)) 66 10 (h : Int)) 66 11 q 66 11 = q := u2_s
    have Z : ∀ F : IT, (∀ a k, a ≠ 66 → F a k = f a k) → F 66 7 = 0 → F 66 8 = f 55 5 → F 66 9 = (m : Int) → F 66 10 = (h : Int) → F 66 11 = q → V_X4_seek (fun r ρ' f' g' => r = some (.int (iz (skA T c (T 117 h) q (stM T m)))) ∧ TW T b ρ' ∧ CT T b f' ∧ GI T c.1 c.2.1 f' g' ∧ SrI T ρ' f' g' ∧ g' 66 12 = bwV T c (T 117 h) q (stM T m) ∧ SKg b ρ f g ρ' f' g') 64 [.ref 66, .int (iz (m : Int)), .int (iz (h : Int)), .int (iz q), .null, .null] [] ρ F g := fun F fo f7 f8 f9 f10 f11 => by
      have hCF : CT T b F := hCt.cg hb (fun a k z1 z2 => fo a k (by omega))
      have hbg := c_sbegin (g := g) hW hCF s4 kC (by omega) hm hh f9 f10
      have eo : ∀ a k, ¬ (a = 66 ∧ (k = 6 ∨ k = 13 ∨ k = 14)) → ¬ (a = rA ∧ k = 0) → u2 (u2 (u2 (u2 F 66 13 (T 113 m)) 66 14 (T 117 h)) rA 0 ((stM T m : Nat) : Int)) 66 6 1 a k = F a k := fun a k z1 z2 => by rw [u2_o (by omega), u2_o (by omega), u2_o (by omega), u2_o (by omega)]
      have e13 : u2 (u2 (u2 (u2 F 66 13 (T 113 m)) 66 14 (T 117 h)) rA 0 ((stM T m : Nat) : Int)) 66 6 1 66 13 = T 113 m := by rw [u2_o (by omega), u2_o (by omega), u2_o (by omega), u2_s]
      have e14 : u2 (u2 (u2 (u2 F 66 13 (T 113 m)) 66 14 (T 117 h)) rA 0 ((stM T m : Nat) : Int)) 66 6 1 66 14 = T 117 h := by rw [u2_o (by omega), u2_o (by omega), u2_s]
      have erA : u2 (u2 (u2 (u2 F 66 13 (T 113 m)) 66 14 (T 117 h)) rA 0 ((stM T m : Nat) : Int)) 66 6 1 rA 0 = ((stM T m : Nat) : Int) := by rw [u2_o (by omega), u2_s]
      have e6 : u2 (u2 (u2 (u2 F 66 13 (T 113 m)) 66 14 (T 117 h)) rA 0 ((stM T m : Nat) : Int)) 66 6 1 66 6 = ((1 : Nat) : Int) := u2_s
      generalize u2 (u2 (u2 (u2 F 66 13 (T 113 m)) 66 14 (T 117 h)) rA 0 ((stM T m : Nat) : Int)) 66 6 1 = G at *
      have gA : ∀ j, j < 2501 → g wA j = 0 := fun j hj => by rcases sw1 with ⟨rfl, rfl⟩ | ⟨rfl, rfl⟩; exact (hz j hj).1; exact (hz j hj).2
      have gB : ∀ j, j < 2501 → g wB j = 0 := fun j hj => by rcases sw1 with ⟨rfl, rfl⟩ | ⟨rfl, rfl⟩; exact (hz j hj).2; exact (hz j hj).1
      have hCG : CT T b G := hCF.cg hb (fun a k z1 z2 => eo a k (by omega) (by omega))
      have hGG : GI T c.1 c.2.1 G g := hG.cg (fun a k z1 z2 => (eo a k (by omega) (by omega)).trans (fo a k (by omega))) rfl
      have hEG : GE T c G := hE.cg (fun k => (eo 55 k (by omega) (by omega)).trans (fo 55 k (by omega)))
      have hL0 : LV T c (T 117 h) q (stM T m) 0 rA wA 1 G g := by
        refine ⟨fun i hi => ⟨stM T m, 0, hst, by rw [show i = 0 by omega]; exact erA, gA _ hst, ⟨rfl, rfl⟩, fun y hy => by rw [hy.2]; omega⟩, fun j y hy => ⟨0, by omega, by rw [erA, hy.1]⟩, fun j hj hne => absurd (gA j hj) hne, by omega, fun i i' hi hi' _ => by omega⟩
      have hNX0 : NX T c (T 117 h) q (stM T m) 0 rB wB 0 G g := by
        refine ⟨fun j hj hne => absurd (gB j hj) hne, fun i hi => by omega, ?_, fun i i' hi => by omega⟩
        have : cntz (g wB) 2501 = cntz (fun _ => 0) 2501 := cntz_cg 2501 (fun j hj => by rw [gB j hj])
        rw [this]
        decide +kernel
      have hSQ : SQ T c (T 117 h) q (stM T m) b 0 rB wB G g := ⟨hCG, hGG, hEG, ⟨0, (eo 66 7 (by omega) (by omega)).trans f7, hNX0⟩, fun j hj => by rw [gB j hj]; unfold rl; omega, e13.trans ht.symm, e14, (eo 66 11 (by omega) (by omega)).trans f11⟩
      refine V_al0n dX4_seek_64 ?_
      refine V_callV (as := []) ml_X4_70 im_X4_begin se_X4_begin kk66 (by decide) (by decide) dX4_seek_65 rfl rfl (by decide) (by decide) (Nat.le_of_ble_eq_true rfl) (by decide) (by decide) rfl (hbg) ?_
      refine pq4 ?_
      refine V_iconst dX4_seek_68 ?_
      refine V_is4 dX4_seek_69 (by decide) rfl ?_
      refine w_sk71 hC hh hst hq (ρ0 := ρ) (f0 := G) (g0 := g) ?_ 0 (by omega) ρ G g wA wB rA rB 1 hW hS0 hL0 e6 hSQ ((eo 66 7 (by omega) (by omega)).trans f7) gB SKf.rf
      intro ρ' f' g' wA' wB' rA' rB' t1 t2 t3 t4 t5 t6 t7 t8
      have h55 : ∀ k, f' 55 k = f 55 k := fun k => (t8.2.1 55 k (by omega) (by omega) (by omega) (by omega) (by omega)).trans ((eo 55 k (by omega) (by omega)).trans (fo 55 k (by omega)))
      have h66 : ∀ k, 8 ≤ k → k ≤ 12 → f' 66 k = F 66 k := fun k z1 z2 => (t8.2.2.1 k z1 (by omega)).trans (eo 66 k (by omega) (by omega))
      have hI' : SrI T ρ' f' g' := SrI.set hk hP hC t4 (hE.cg h55) hm hh ht hq t2 t5 t6 (by rw [h66 8 (by omega) (by omega), f8, h55]) ((h66 9 (by omega) (by omega)).trans f9) ((h66 10 (by omega) (by omega)).trans f10) ((h66 11 (by omega) (by omega)).trans f11) t7
      exact w_sk132 hk hC hh hst t7 ⟨rfl, t1, t3, t4, hI', t7, t8.1, fun a k z1 z2 z3 z4 z5 => (t8.2.1 a k z1 z2 z3 z4 z5).trans ((eo a k (by omega) (by omega)).trans (fo a k z2)), t8.2.2.2⟩
    have fo : ∀ a k, a ≠ 66 → u2 (u2 (u2 (u2 f 66 8 (f 55 5)) 66 9 (m : Int)) 66 10 (h : Int)) 66 11 q a k = f a k := fun a k z => by rw [u2_o (by omega), u2_o (by omega), u2_o (by omega), u2_o (by omega)]
    refine V_al0n dX4_seek_38 ?_
    refine V_al0n dX4_seek_39 ?_
    refine V_getR kk66 (by decide) fl_X4_63 (fx_66_0 hρ) dX4_seek_40 ?_
    refine V_getI kk55 (by decide) fl_X4_67 rfl dX4_seek_43 ?_
    refine V_putI kk66 (by decide) fl_X4_39 rfl dX4_seek_46 ?_
    refine V_al0n dX4_seek_49 ?_
    refine V_il1n dX4_seek_50 ?_
    refine V_putI kk66 (by decide) fl_X4_42 rfl dX4_seek_51 ?_
    refine V_al0n dX4_seek_54 ?_
    refine V_il2n dX4_seek_55 ?_
    refine V_putI kk66 (by decide) fl_X4_45 rfl dX4_seek_56 ?_
    refine V_al0n dX4_seek_59 ?_
    refine V_il3n dX4_seek_60 ?_
    refine V_putI kk66 (by decide) fl_X4_48 rfl dX4_seek_61 ?_
    exact Z _ fo f7 f8 f9 f10 f11
  have Y : f 66 8 = f 55 5 → f 66 9 = (m : Int) → f 66 10 = (h : Int) → f 66 11 = q → V_X4_seek (fun r ρ' f' g' => r = some (.int (iz (skA T c (T 117 h) q (stM T m)))) ∧ TW T b ρ' ∧ CT T b f' ∧ GI T c.1 c.2.1 f' g' ∧ SrI T ρ' f' g' ∧ g' 66 12 = bwV T c (T 117 h) q (stM T m) ∧ SKg b ρ f g ρ' f' g') 132 [.ref 66, .null, .null, .null, .null, .null] [] ρ f g := fun y8 y9 y10 y11 => by
    obtain ⟨m', h', j1, j2, j3, j4, j5, j6⟩ := hI y8
    have em : m' = m := by omega
    have eh : h' = h := by omega
    subst em eh
    have e12 := j6 c hC hE hG.1 hG.2.1 ht
    rw [y11] at e12
    exact w_sk132 hk hC hh hst e12 ⟨rfl, hW, hCt, hG, hI0, e12, fun _ _ _ => rfl, fun _ _ _ _ _ _ _ => rfl, fun _ _ _ _ _ _ _ => rfl⟩
  refine V_al0n dX4_seek_0 ?_
  refine V_getI kk66 (by decide) fl_X4_39 rfl dX4_seek_1 ?_
  refine V_al0n dX4_seek_4 ?_
  refine V_getR kk66 (by decide) fl_X4_63 (fx_66_0 hρ) dX4_seek_5 ?_
  refine V_getI kk55 (by decide) fl_X4_67 rfl dX4_seek_8 ?_
  refine V_icmp_ne (tgt := 38) dX4_seek_11 rfl (by unfold ri; omega) (by unfold ri; omega) (fun b11 => ?_) (fun b11 => ?_)
  · exact X
  · refine V_al0n dX4_seek_14 ?_
    refine V_getI kk66 (by decide) fl_X4_42 rfl dX4_seek_15 ?_
    refine V_il1n dX4_seek_18 ?_
    refine V_icmp_ne (tgt := 38) dX4_seek_19 rfl i9 (by unfold ri; omega) (fun b19 => ?_) (fun b19 => ?_)
    · exact X
    · refine V_al0n dX4_seek_22 ?_
      refine V_getI kk66 (by decide) fl_X4_45 rfl dX4_seek_23 ?_
      refine V_il2n dX4_seek_26 ?_
      refine V_icmp_ne (tgt := 38) dX4_seek_27 rfl i10 (by unfold ri; omega) (fun b27 => ?_) (fun b27 => ?_)
      · exact X
      · refine V_al0n dX4_seek_30 ?_
        refine V_getI kk66 (by decide) fl_X4_48 rfl dX4_seek_31 ?_
        refine V_il3n dX4_seek_34 ?_
        refine V_icmp_eq (tgt := 132) dX4_seek_35 rfl i11 (by unfold ri; omega) (fun b35 => ?_) (fun b35 => ?_)
        · exact V_weak (by repeat (first | exact wk_n | refine wk_c (Or.inr rfl) ?_ | refine wk_c (Or.inl rfl) ?_)) (Y b11 b19 b27 b35)
        · exact X
end SEEK4

