/-! the same ways under what counts the same -/
def cEq (T : TT) (c c' : CC) : Prop := c.1 = c'.1 ∧ c.2.1 = c'.2.1 ∧ ms T 2 c.2.2.1 = ms T 2 c'.2.2.1 ∧ ms T 3 c.2.2.2.1 = ms T 3 c'.2.2.2.1 ∧ c.2.2.2.2 = c'.2.2.2.2
section CEQ
variable {T : TT} {c c' : CC}
theorem one_ceq (hk : TOK T) (hP : TPF T) (h : cEq T c c') (k : Nat) (hc pa : Int) (s : SS) : one T c k hc pa s = one T c' k hc pa s := by
  obtain ⟨h1, h2, h3, h4, h5⟩ := h
  obtain ⟨fl, ra, sk, wt, top⟩ := c
  obtain ⟨fl', ra', sk', wt', top'⟩ := c'
  simp only at h1 h2 h3 h4 h5
  subst h1 h2 h5
  have hg := g_cg hk hP (fl := fl) (ra := ra) (sk := sk) (wt := wt) (sk' := sk') (wt' := wt') (k := k) (pa := goP s.2.1 pa) (wi := s.2.1) (le := s.2.2.1) (wi' := s.2.1) (le' := s.2.2.1) h3 h4 rfl rfl
  have e1 : sTi T k fl ra sk wt pa s.2.1 s.2.2.1 = sTi T k fl ra sk' wt' pa s.2.1 s.2.2.1 := hg.1
  have e2 : sCo T k fl ra sk wt pa s.2.1 s.2.2.1 = sCo T k fl ra sk' wt' pa s.2.1 s.2.2.1 := hg.2.1
  have e3 : sAc T k fl ra sk wt pa s.2.1 s.2.2.1 = sAc T k fl ra sk' wt' pa s.2.1 s.2.2.1 := hg.2.2
  unfold one sWi sLe
  simp only
  rw [e1, e2, e3]
theorem thr_ceq (h : ∀ k hc pa s, one T c k hc pa s = one T c' k hc pa s) (k : Nat) (hc pa : Int) : ∀ n s, thr T c k hc pa n s = thr T c' k hc pa n s
  | 0, s => rfl
  | n + 1, s => by rw [thr, thr, h, thr_ceq h k hc pa n]
theorem tq_ceq (h : ∀ k hc pa s, one T c k hc pa s = one T c' k hc pa s) (hc : Int) (k p i : Nat) : tq T c hc k p i = tq T c' hc k p i := by unfold tq th3; rw [thr_ceq h]
theorem nsp_ceq (h : ∀ k hc pa s, one T c k hc pa s = one T c' k hc pa s) (hc : Int) (k p i : Nat) : nsp T c hc k p i = nsp T c' hc k p i := by unfold nsp; rw [tq_ceq h]
theorem bstep_ceq (h : ∀ k hc pa s, one T c k hc pa s = one T c' k hc pa s) (hc q : Int) (k i : Nat) (v : Nat → Int) : ∀ n p x, bstep T c hc q k i v n p x = bstep T c' hc q k i v n p x
  | 0, p, x => rfl
  | n + 1, p, x => by rw [bstep, bstep, bstep_ceq h hc q k i v n, tq_ceq h, nsp_ceq h]
theorem vst_ceq (h : ∀ k hc pa s, one T c k hc pa s = one T c' k hc pa s) (hc q : Int) : ∀ n k i, vst T c hc q n k i = vst T c' hc q n k i
  | 0, k, i => rfl
  | n + 1, k, i => by
    rw [vst, vst, bstep_ceq h]
    congr 1
    funext j
    rw [vst_ceq h hc q n]
theorem dg_ceq (h : ∀ k hc pa s, one T c k hc pa s = one T c' k hc pa s) (hc q : Int) : ∀ n k i, dg T c hc q n k i = dg T c' hc q n k i
  | 0, k, i => rfl
  | n + 1, k, i => by rw [dg, dg, vst_ceq h, nsp_ceq h, dg_ceq h hc q n]
theorem bwV_ceq (hk : TOK T) (hP : TPF T) (h : cEq T c c') (hc q : Int) (st : Nat) : bwV T c hc q st = bwV T c' hc q st := by
  have ho := one_ceq hk hP h
  unfold bwV BB
  rw [vst_ceq ho, dg_ceq ho]
end CEQ
/-- where a man begins -/
def stM (T : TT) (m : Nat) : Nat := 41 * (T 113 m).toNat + (T 114 m).toNat
/-- what the search keeps between calls -/
def SrI (T : TT) (ρ : RT) (f : IT) (g : JT) : Prop := (∃ wA wB rA rB, SWp ρ wA wB rA rB) ∧ (∀ j, j < 2501 → g 68 j = 0 ∧ g 69 j = 0) ∧ f 66 7 = 0 ∧ (0 ≤ f 66 8 ∧ f 66 8 ≤ f 55 5) ∧ ri (f 66 9) ∧ ri (f 66 10) ∧ ri (f 66 11) ∧ rl (g 66 12) ∧
  (f 66 8 = f 55 5 → ∃ m h : Nat, m < nMe T ∧ h < nHo T ∧ f 66 9 = (m : Int) ∧ f 66 10 = (h : Int) ∧ (0 ≤ f 66 11 ∧ f 66 11 ≤ 9) ∧ ∀ c : CC, CR c → GE T c f → f 55 4 = bz c.1 → f 55 3 = bz c.2.1 → c.2.2.2.2 = T 113 m → g 66 12 = bwV T c (T 117 h) (f 66 11) (stM T m))
theorem bz_inj {x y : Bool} (h : bz x = bz y) : x = y := by cases x <;> cases y <;> simp_all [bz]
theorem stM_lt {T : TT} (hk : TOK T) {m : Nat} (hm : m < nMe T) : stM T m < 2501 := by have := hk.man hm; unfold stM; omega
def skA (T : TT) (c : CC) (hc q : Int) (st : Nat) : Int := if (vst T c hc q (nLa T) 0 st).1 = 99999 then -2 else (vst T c hc q (nLa T) 0 st).1
theorem bwV_sk {T : TT} (hk : TOK T) {c : CC} (hC : CR c) {h : Nat} (hh : h < nHo T) {q : Int} {st : Nat} (hst : st < 2501) : (bwV T c (T 117 h) q st = -1 ∧ skA T c (T 117 h) q st = -2) ∨ (0 ≤ bwV T c (T 117 h) q st ∧ bwV T c (T 117 h) q st < 1099511627776 ∧ bwV T c (T 117 h) q st / 16777216 = skA T c (T 117 h) q st) := by
  have h6 := hk.la
  have hv := vst_way hk hC hh (q := q) (nLa T) 0 st (by omega) hst
  have hr := vst_rng hk hC hh (q := q) (nLa T) 0 st (by omega) hst
  unfold bwV skA
  by_cases z : (vst T c (T 117 h) q (nLa T) 0 st).1 = 99999
  · rw [if_pos z, if_pos z]; exact Or.inl ⟨rfl, rfl⟩
  · rw [if_neg z, if_neg z]
    obtain ⟨-, v2, -⟩ := hv.1 z
    have h5 : (16 : Int) ^ nLa T ≤ 16 ^ 6 := p16_le (by omega)
    have e5 : (16 : Int) ^ 6 = 16777216 := by decide
    rw [e5] at h5
    right
    unfold BB
    omega
section SEEK3
variable {T : TT} {c : CC} {b : Nat} {ρ : RT} {f : IT} {g : JT}
theorem c_sbegin (hW : TW T b ρ) (hC : CT T b f) {rA : Nat} (hr4 : ρ 66 4 = some rA) (kC : kd rA = (13, 2501)) (hrA : rA = 70 ∨ rA = 71) {m h : Nat} (hm : m < nMe T) (hh : h < nHo T) (h9 : f 66 9 = (m : Int)) (h10 : f 66 10 = (h : Int)) : C_X4_begin [.ref 66] ρ f g (fun r ρ' f' g' => r = none ∧ ρ' = ρ ∧ f' = u2 (u2 (u2 (u2 f 66 13 (T 113 m)) 66 14 (T 117 h)) rA 0 ((stM T m : Nat) : Int)) 66 6 1 ∧ g' = g) := by
  have hk := hW.2.2.2.2.1
  have hρ := hW.1
  have hb := hW.2.1
  have h5 := hk.me
  have h3 := hk.ho
  have hma := hk.man hm
  have t0 := tat1 hk (j := 0) hm (by omega)
  have t1 := tat1 hk (j := 1) hm (by omega)
  have t2 := tat2 hk (j := 0) hh (by omega)
  simp [tcl] at t0 t1 t2
  have hC1 : ∀ x, CT T b (u2 f 66 13 x) := fun x => hC.cg hb (fun a k h1 h2 => u2_o (by omega))
  have hC2 : ∀ x y, CT T b (u2 (u2 f 66 13 x) 66 14 y) := fun x y => (hC1 x).cg hb (fun a k h1 h2 => u2_o (by omega))
  have a0 := c_at (f := f) (g := g) hρ hb hC hk (i := 1) (by omega) (k := (m : Int)) (j := 0) (by unfold ri; omega) (by unfold ri; omega)
  have a1 := c_at (f := u2 f 66 13 (T 113 m)) (g := g) hρ hb (hC1 _) hk (i := 2) (by omega) (k := (h : Int)) (j := 0) (by unfold ri; omega) (by unfold ri; omega)
  have a2 := c_at (f := u2 (u2 f 66 13 (T 113 m)) 66 14 (T 117 h)) (g := g) hρ hb (hC2 _ _) hk (i := 1) (by omega) (k := (m : Int)) (j := 1) (by unfold ri; omega) (by unfold ri; omega)
  rw [t0] at a0
  rw [t2] at a1
  rw [t1] at a2
  have es : T 113 m * 41 + T 114 m = ((stM T m : Nat) : Int) := by unfold stM; omega
  refine Ct.ofV (by decide) rfl (Nat.le_of_ble_eq_true rfl) ?_
  refine V_al0n dX4_begin_0 ?_
  refine V_al0n dX4_begin_1 ?_
  refine V_getR kk66 (by decide) fl_X4_63 (fx_66_0 hρ) dX4_begin_2 ?_
  refine V_getR kk55 (by decide) fl_X4_73 hW.2.2.2.1 dX4_begin_5 ?_
  refine V_iconst dX4_begin_8 ?_
  refine V_al0n dX4_begin_9 ?_
  refine V_getI kk66 (by decide) fl_X4_42 h9 dX4_begin_10 ?_
  refine V_iconst dX4_begin_13 ?_
  refine V_callV (as := [_, _, _]) ml_X4_92 im_X7_at se_X7_at (kb_0 hb) (by decide) (kl_0 hb) dX4_begin_14 rfl rfl (by decide) (by decide) (Nat.le_of_ble_eq_true rfl) (by decide) (by decide) rfl (a0) ?_
  refine pq4 ?_
  refine V_putI kk66 (by decide) fl_X4_57 rfl dX4_begin_17 ?_
  refine V_al0n dX4_begin_20 ?_
  refine V_al0n dX4_begin_21 ?_
  refine V_getR kk66 (by decide) fl_X4_63 (fx_66_0 hρ) dX4_begin_22 ?_
  refine V_getR kk55 (by decide) fl_X4_73 hW.2.2.2.1 dX4_begin_25 ?_
  refine V_iconst dX4_begin_28 ?_
  refine V_al0n dX4_begin_29 ?_
  refine V_getI kk66 (by decide) fl_X4_45 (u2_n (by decide) h10) dX4_begin_30 ?_
  refine V_iconst dX4_begin_33 ?_
  refine V_callV (as := [_, _, _]) ml_X4_92 im_X7_at se_X7_at (kb_0 hb) (by decide) (kl_0 hb) dX4_begin_34 rfl rfl (by decide) (by decide) (Nat.le_of_ble_eq_true rfl) (by decide) (by decide) rfl (a1) ?_
  refine pq4 ?_
  refine V_putI kk66 (by decide) fl_X4_60 rfl dX4_begin_37 ?_
  refine V_al0n dX4_begin_40 ?_
  refine V_getR kk66 (by decide) fl_X4_25 hr4 dX4_begin_41 ?_
  refine V_iconst dX4_begin_44 ?_
  refine V_al0n dX4_begin_45 ?_
  refine V_getI kk66 (by decide) fl_X4_57 (u2_n (by decide) u2_s) dX4_begin_46 ?_
  refine V_bipush dX4_begin_49 rfl ?_
  refine V_imul dX4_begin_51 ?_
  refine V_al0n dX4_begin_52 ?_
  refine V_getR kk66 (by decide) fl_X4_63 (fx_66_0 hρ) dX4_begin_53 ?_
  refine V_getR kk55 (by decide) fl_X4_73 hW.2.2.2.1 dX4_begin_56 ?_
  refine V_iconst dX4_begin_59 ?_
  refine V_al0n dX4_begin_60 ?_
  refine V_getI kk66 (by decide) fl_X4_42 (u2_n (by decide) (u2_n (by decide) h9)) dX4_begin_61 ?_
  refine V_iconst dX4_begin_64 ?_
  refine V_callV (as := [_, _, _]) ml_X4_92 im_X7_at se_X7_at (kb_0 hb) (by decide) (kl_0 hb) dX4_begin_65 rfl rfl (by decide) (by decide) (Nat.le_of_ble_eq_true rfl) (by decide) (by decide) rfl (a2) ?_
  refine pq4 ?_
  refine V_iadd dX4_begin_68 ?_
  rw [es]
  refine V_iast (k := 0) kC (kdlt kC (by decide)) (by first | rfl | omega) (by omega) (by first | decide | assumption | omega) dX4_begin_69 ?_
  refine V_al0n dX4_begin_70 ?_
  refine V_iconst dX4_begin_71 ?_
  refine V_putI kk66 (by decide) fl_X4_32 rfl dX4_begin_72 ?_
  exact V_return rfl ⟨rfl, rfl, rfl, rfl⟩ dX4_begin_75
end SEEK3

