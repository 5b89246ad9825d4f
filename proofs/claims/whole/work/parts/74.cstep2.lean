def SWf (w b : Nat) (f : IT) (g : JT) (f' : IT) (g' : JT) : Prop := (∀ a k, a ≠ 61 → a ≠ w → f' a k = f a k) ∧ ∀ a, a ≠ 60 → a ≠ b + 22 → a ≠ b + 23 → a ≠ w → g' a = g a
theorem SWf.rf {w b : Nat} {f : IT} {g : JT} : SWf w b f g f g := ⟨fun _ _ _ _ => rfl, fun _ _ _ _ _ => rfl⟩
theorem SWf.tr {w b : Nat} {f f' f'' : IT} {g g' g'' : JT} (h : SWf w b f g f' g') (h' : SWf w b f' g' f'' g'') : SWf w b f g f'' g'' := ⟨fun a k q r => (h'.1 a k q r).trans (h.1 a k q r), fun a q r s t => (h'.2 a q r s t).trans (h.2 a q r s t)⟩
theorem TRf.sw {w b : Nat} {f f' : IT} {g g' : JT} (h : TRf w b f g f' g') : SWf w b f g f' g' := ⟨fun a k q r => h.1 a k q (fun e => r e.1), fun a q r s _ => h.2 a q r s⟩
def wPa (T : TT) (p k : Nat) (own : Int) : Int := if 0 < own then own else pce T p k
def stX (T : TT) (c : CC) (k h : Nat) (pa : Int) (sl : Bool) (x : RS) : RS := if sl = true then onS T c k h pa x else (one T c k (T 117 h) pa x.1, x.2)
def stN (T : TT) (c : CC) (k h : Nat) (sl : Bool) (d : Int) : Int := if sl = true ∧ slp T c.2.1 k h d = true then 1 else 0
/-- a walk w by man and plan at a place, with wind and legs -/
def WK (T : TT) (w : Nat) (c : CC) (h p k : Nat) (own v : Int) (x : RS) (f : IT) (g : JT) : Prop := WS w c (T 117 h) x.1 f ∧ g w 14 = x.2 ∧ f w 12 = (k : Int) ∧ f w 13 = v ∧ f w 3 = (h : Int) ∧ f w 2 = (p : Int) ∧ f w 5 = own ∧ f w 10 = x.1.2.2.2
section WSTEP
variable {T : TT} {b w : Nat} {ρ : RT} {f : IT} {g : JT}
theorem tat3 (hk : TOK T) {p k : Nat} (hp : p < nPl T) (hl : k < 6) : tat T 3 (p : Int) (1 + (k : Int)) = pce T p k := by
  have h5 := hk.pl
  unfold tat
  rw [if_pos ⟨⟨by omega, by show (p : Int) < T 104 15; omega⟩, by omega, by have : wdK 3 = 7 := rfl; omega⟩, Int.toNat_natCast, show (1 + (k : Int)).toNat = k + 1 by omega]
  rfl
theorem tat30 (hk : TOK T) {p : Nat} (hp : p < nPl T) : tat T 3 (p : Int) 0 = T 121 p := by
  have h5 := hk.pl
  unfold tat
  rw [if_pos ⟨⟨by omega, by show (p : Int) < T 104 15; omega⟩, by omega, by have : wdK 3 = 7 := rfl; omega⟩, Int.toNat_natCast]
  rfl
theorem tat2 (hk : TOK T) {h j : Nat} (hh : h < nHo T) (hj : j < 3) : tat T 2 (h : Int) (j : Int) = tcl T 2 h j := by
  have h5 := hk.ho
  unfold tat
  rw [if_pos ⟨⟨by omega, by show (h : Int) < T 104 14; omega⟩, by omega, by have : wdK 2 = 3 := rfl; omega⟩, Int.toNat_natCast, Int.toNat_natCast]
theorem tat1 (hk : TOK T) {m j : Nat} (hm : m < nMe T) (hj : j < 3) : tat T 1 (m : Int) (j : Int) = tcl T 1 m j := by
  have h5 := hk.me
  unfold tat
  rw [if_pos ⟨⟨by omega, by show (m : Int) < T 104 13; omega⟩, by omega, by have : wdK 1 = 3 := rfl; omega⟩, Int.toNat_natCast, Int.toNat_natCast]
theorem thr1 {c : CC} {k : Nat} {hc pa : Int} {s : SS} (h : s.2.2.1 ≠ 0) : thr T c k hc pa 1 s = one T c k hc pa s := by rw [thr, if_neg h, thr]
theorem w_step56 {Q : QT} {f0 : IT} {g0 : JT} (hρ : Fx ρ) (kw : kd w = (10, 0)) (hw : 62 ≤ w) (hb : b = 5 ∨ b = 30) {c : CC} {k : Nat} (hk : TOK T) (hl : k < nLa T) {v n : Int} {x : RS} {own : Int} {h p : Nat} {sl : Bool}
    (hC : CT T b f) (hG : GI T c.1 c.2.1 f g) (hS : SWf w b f0 g0 f g) (hW : WS w c (T 117 h) x.1 f) (hg : g w 14 = x.2) (h12 : f w 12 = (k : Int)) (h13 : f w 13 = v) (h3 : f w 3 = (h : Int)) (h2 : f w 2 = (p : Int)) (h5 : f w 5 = own) (h10 : f w 10 + 1 = x.1.2.2.2) (h11 : f w 11 = n) (h0 : f w 0 = f0 w 0 ∧ f w 1 = f0 w 1) (hv : 0 ≤ v ∧ v ≤ 1000)
    (hQ : ∀ f', CT T b f' → GI T c.1 c.2.1 f' g → SWf w b f0 g0 f' g → WK T w c h p (if T 108 k ≤ v + 1 then k + 1 else k) own (if T 108 k ≤ v + 1 then 0 else v + 1) x f' g → f' w 11 = n → (f' w 0 = f0 w 0 ∧ f' w 1 = f0 w 1) → Q none ρ f' g) :
    V_X10_step Q 56 [.ref w, .ref 55, .int (iz (bz sl))] [] ρ f g := by
  have h6 := hk.la
  have e56 : f 56 k = T 108 k := by
    have := (hG.2.2.2.2.2.1 k (by omega)).1
    have t0 := tat0 hk (j := 0) hl (by omega)
    simp [tcl] at t0
    rw [this, t0]
  have hln := hk.lane hl
  obtain ⟨w6, w4, w9, w7, w8⟩ := hW
  have fin : ∀ F : IT, (∀ a j, ¬ (a = w ∧ (j = 10 ∨ j = 12 ∨ j = 13)) → F a j = f a j) → F w 10 = f w 10 + 1 → F w 12 = ((if T 108 k ≤ v + 1 then k + 1 else k : Nat) : Int) → F w 13 = (if T 108 k ≤ v + 1 then 0 else v + 1) → Q none ρ F g := fun F fo f10 f12 f13 =>
    hQ F (hC.cg hb (fun a j q1 q2 => fo a j (by omega))) (hG.cg (fun a j q1 q2 => fo a j (by omega)) rfl) (hS.tr ⟨fun a j q1 q2 => fo a j (by omega), fun _ _ _ _ _ => rfl⟩)
      ⟨⟨(fo w 6 (by omega)).trans w6, (fo w 4 (by omega)).trans w4, (fo w 9 (by omega)).trans w9, (fo w 7 (by omega)).trans w7, (fo w 8 (by omega)).trans w8⟩, hg, f12, f13, (fo w 3 (by omega)).trans h3, (fo w 2 (by omega)).trans h2, (fo w 5 (by omega)).trans h5, f10.trans h10⟩ ((fo w 11 (by omega)).trans h11) ⟨(fo w 0 (by omega)).trans h0.1, (fo w 1 (by omega)).trans h0.2⟩
  refine V_al0n dX10_step_56 ?_
  refine V_dup dX10_step_57 rfl ?_
  refine V_getI kw (kdlt kw (by decide)) fl_X10_43 rfl dX10_step_58 ?_
  refine V_iconst dX10_step_61 ?_
  refine V_iadd dX10_step_62 ?_
  refine V_putI kw (kdlt kw (by decide)) fl_X10_43 rfl dX10_step_63 ?_
  refine V_al0n dX10_step_66 ?_
  refine V_dup dX10_step_67 rfl ?_
  refine V_getI kw (kdlt kw (by decide)) fl_X10_52 (u2_n (by omega) h13) dX10_step_68 ?_
  refine V_iconst dX10_step_71 ?_
  refine V_iadd dX10_step_72 ?_
  refine V_putI kw (kdlt kw (by decide)) fl_X10_52 rfl dX10_step_73 ?_
  refine V_al0n dX10_step_76 ?_
  refine V_getI kw (kdlt kw (by decide)) fl_X10_52 u2_s dX10_step_77 ?_
  refine V_al1n dX10_step_80 ?_
  refine V_getR kk55 (by decide) fl_X10_98 (fx_55_6 hρ) dX10_step_81 ?_
  refine V_al0n dX10_step_84 ?_
  refine V_getI kw (kdlt kw (by decide)) fl_X10_49 (u2_n (by omega) (u2_n (by omega) h12)) dX10_step_85 ?_
  refine V_iald (k := k) kk56 (by decide) (by first | rfl | omega) (by omega) (by first | decide | assumption | omega) ((u2_n (by omega) (u2_n (by omega) e56))) dX10_step_88 ?_
  refine V_icmp_lt (tgt := 107) dX10_step_89 rfl (by unfold ri; omega) (by unfold ri; omega) (fun b89 => ?_) (fun b89 => ?_)
  · exact V_return rfl (fin _ (fun a j q => by (repeat rw [u2_o (by omega)])) (by (repeat rw [u2_o (by omega)]); rw [u2_s]) (by first | (rw [if_pos (by omega), u2_s]; rfl) | (rw [if_neg (by omega)]; (repeat rw [u2_o (by omega)]); exact h12)) (by first | (rw [if_pos (by omega), u2_o (by omega), u2_s]) | (rw [if_neg (by omega), u2_s]))) dX10_step_107
  · refine V_al0n dX10_step_92 ?_
    refine V_iconst dX10_step_93 ?_
    refine V_putI kw (kdlt kw (by decide)) fl_X10_52 rfl dX10_step_94 ?_
    refine V_al0n dX10_step_97 ?_
    refine V_dup dX10_step_98 rfl ?_
    refine V_getI kw (kdlt kw (by decide)) fl_X10_49 (u2_n (by omega) (u2_n (by omega) (u2_n (by omega) h12))) dX10_step_99 ?_
    refine V_iconst dX10_step_102 ?_
    refine V_iadd dX10_step_103 ?_
    refine V_putI kw (kdlt kw (by decide)) fl_X10_49 rfl dX10_step_104 ?_
    exact V_return rfl (fin _ (fun a j q => by (repeat rw [u2_o (by omega)])) (by (repeat rw [u2_o (by omega)]); rw [u2_s]) (by first | (rw [if_pos (by omega), u2_s]; rfl) | (rw [if_neg (by omega)]; (repeat rw [u2_o (by omega)]); exact h12)) (by first | (rw [if_pos (by omega), u2_o (by omega), u2_s]) | (rw [if_neg (by omega), u2_s]))) dX10_step_107
theorem c_wstep (hρ : Fx ρ) (hr : ρ 55 0 = some b) (hb : b = 5 ∨ b = 30) (hk : TOK T) (hP : TPF T) (kw : kd w = (10, 0)) (hw : 62 ≤ w) {c : CC} (hc : CR c) {k h p : Nat} (hl : k < nLa T) (hh : h < nHo T) (hp : p < nPl T) {own v : Int} (hown : 0 ≤ own ∧ own ≤ 9) (hv : 0 ≤ v ∧ v ≤ 1000) {x : RS} {sl : Bool} (hC : CT T b f) (hG : GI T c.1 c.2.1 f g) (hE : GE T c f) (hW : WK T w c h p k own v x f g) (hs : SR x.1) (hs4 : x.1.2.2.1 ≤ 40) (hpos : x.1.2.2.1 ≠ 0) :
    C_X10_step [.ref w, .ref 55, .int (iz (bz sl))] ρ f g (fun r ρ' f' g' => r = none ∧ ρ' = ρ ∧ CT T b f' ∧ GI T c.1 c.2.1 f' g' ∧ SWf w b f g f' g' ∧ WK T w c h p (if T 108 k ≤ v + 1 then k + 1 else k) own (if T 108 k ≤ v + 1 then 0 else v + 1) (stX T c k h (wPa T p k own) sl x) f' g' ∧ f' w 11 = f w 11 + stN T c k h sl x.2 ∧ (f' w 0 = f w 0 ∧ f' w 1 = f w 1)) := by
  have h6 := hk.la
  obtain ⟨hWS, x14, x12, x13, x3, x2, x5, x10⟩ := hW
  have hWS0 := hWS
  obtain ⟨w6, w4, w9, w7, w8⟩ := hWS
  have hs0 := hs
  obtain ⟨s1, s2⟩ := hs
  have hpc := pce_rng hk (k := k) hp
  have hpa : 1 ≤ wPa T p k own ∧ wPa T p k own ≤ 9 := by unfold wPa; split <;> omega
  have ewp : wnp T w f = goP x.1.2.1 (wPa T p k own) := by
    unfold wnp goP wPa
    rw [w7, x5, x2, x12, tat3 hk hp (by omega)]
  have hgp : 1 ≤ goP x.1.2.1 (wPa T p k own) ∧ goP x.1.2.1 (wPa T p k own) ≤ 9 := by unfold goP; split <;> omega
  have hnp : C_X10_nextPace [.ref w, .ref b] ρ f g (fun r ρ' f' g' => r = some (.int (iz (goP x.1.2.1 (wPa T p k own)))) ∧ ρ' = ρ ∧ f' = f ∧ g' = g) := by
    have := c_nextPace (w := w) (g := g) hρ hb hC hk kw (by unfold ri; omega) (by unfold ri; omega) (by have := hk.pl; unfold ri; omega) (by unfold ri; omega)
    rw [ewp] at this
    exact this
  have htr := c_tread hρ hr hb hk hP kw hw hc hl hh hgp (n := 1) (by omega) hC hG hE hWS0 hs0 hs4
  rw [thr1 hpos, one_gp] at htr
  have hdm : ∀ F G, GI T c.1 c.2.1 F G → F 58 k = bz (dmp T c.2.1 k) := fun F G hF => by
    have := (hF.2.2.2.2.2.1 k (by omega)).2.2.1
    have t3 := tat0 hk (j := 3) hl (by omega)
    simp [tcl] at t3
    rw [this, t3]
    have hln := hk.lane hl
    unfold dmp
    rcases hln.2.2.2 with q | q <;> cases c.2.1 <;> simp [q, bz]
  refine Ct.ofV (by decide) rfl (Nat.le_of_ble_eq_true rfl) ?_
  refine V_al0n dX10_step_0 ?_
  refine V_getI kw (kdlt kw (by decide)) fl_X10_49 x12 dX10_step_1 ?_
  refine V_if_lt (tgt := 16) dX10_step_4 rfl (by unfold ri; omega) (fun b4 => ?_) (fun b4 => ?_)
  · exfalso; omega
  · refine V_al0n dX10_step_7 ?_
    refine V_getI kw (kdlt kw (by decide)) fl_X10_49 x12 dX10_step_8 ?_
    refine V_bipush dX10_step_11 rfl ?_
    refine V_icmp_lt (tgt := 17) dX10_step_13 rfl (by unfold ri; omega) (by unfold ri; omega) (fun b13 => ?_) (fun b13 => ?_)
    · refine V_al0n dX10_step_17 ?_
      refine V_al1n dX10_step_18 ?_
      refine V_al0n dX10_step_19 ?_
      refine V_getI kw (kdlt kw (by decide)) fl_X10_49 x12 dX10_step_20 ?_
      refine V_al0n dX10_step_23 ?_
      refine V_al1n dX10_step_24 ?_
      refine V_getR kk55 (by decide) fl_X10_77 hr dX10_step_25 ?_
      refine V_callV (as := [_]) ml_X10_83 im_X10_nextPace se_X10_nextPace kw (by decide) (kdlt kw (by decide)) dX10_step_28 rfl rfl (by decide) (by decide) (Nat.le_of_ble_eq_true rfl) (by decide) (by decide) rfl (hnp) ?_
      refine pq4 ?_
      refine V_iconst dX10_step_31 ?_
      refine V_callV (as := [_, _, _, _]) ml_X10_87 im_X10_tread se_X10_tread kw (by decide) (kdlt kw (by decide)) dX10_step_32 rfl rfl (by decide) (by decide) (Nat.le_of_ble_eq_true rfl) (by decide) (by decide) rfl (htr) ?_
      rintro r32 ρ32 f32 g32 ⟨rfl, s32_0, q1, q2, q3, q4⟩
      obtain rfl := s32_0.symm
      have y : ∀ j, ¬ (7 ≤ j ∧ j ≤ 9) → f32 w j = f w j := fun j hj => q3.1 w j (by omega) (by omega)
      have y14 : g32 w 14 = x.2 := by rw [q3.2 w (by omega) (by omega) (by omega)]; exact x14
      refine V_il2n dX10_step_35 ?_
      refine V_bt (tgt := 56) dX10_step_36 rfl (fun b36 => ?_) (fun b36 => ?_)
      · cases hsl : sl with
        | true => rw [hsl] at b36; cases b36
        | false => exact w_step56 hρ kw hw hb hk hl (x := stX T c k h (wPa T p k own) false x) (n := f w 11) q1 q2 q3.sw q4 y14 ((y 12 (by omega)).trans x12) ((y 13 (by omega)).trans x13) ((y 3 (by omega)).trans x3) ((y 2 (by omega)).trans x2) ((y 5 (by omega)).trans x5) (by rw [y 10 (by omega), x10]; rfl) (y 11 (by omega)) ⟨y 0 (by omega), y 1 (by omega)⟩ hv (fun f' a1 a2 a3 a4 a5 a6 => ⟨rfl, rfl, a1, a2, a3, a4, by rw [a5]; unfold stN; simp, a6⟩)
      · refine V_al0n dX10_step_39 ?_
        refine V_al1n dX10_step_40 ?_
        refine V_getR kk55 (by decide) fl_X10_77 hr dX10_step_41 ?_
        refine V_al1n dX10_step_44 ?_
        refine V_getR kk55 (by decide) fl_X10_91 (fx_55_8 hρ) dX10_step_45 ?_
        refine V_al0n dX10_step_48 ?_
        refine V_getI kw (kdlt kw (by decide)) fl_X10_49 ((y 12 (by omega)).trans x12) dX10_step_49 ?_
        refine V_iald (k := k) kk58 (by decide) (by first | rfl | omega) (by omega) (by first | decide | assumption | omega) (hdm f32 g32 q2) dX10_step_52 ?_
        refine V_callV (as := [_, _]) ml_X10_95 im_X10_slip se_X10_slip kw (by decide) (kdlt kw (by decide)) dX10_step_53 rfl rfl (by decide) (by decide) (Nat.le_of_ble_eq_true rfl) (by decide) (by decide) rfl (c_slip hρ hb q1 hk kw hw y14 (by unfold bz; split <;> omega) (by rw [y 3 (by omega), x3]; have := hk.ho; unfold ri; omega)) ?_
        refine pq4 ?_
        have e3 : f32 w 3 = (h : Int) := (y 3 (by omega)).trans x3
        have t1 := tat2 hk (j := 1) hh (by omega)
        have t2 := tat2 hk (j := 2) hh (by omega)
        simp [tcl] at t1 t2
        have eS : slF T w x.2 (bz (dmp T c.2.1 k)) f32 = if slp T c.2.1 k h x.2 = true then u2 (u2 f32 w 11 (f32 w 11 + 1)) w 9 (f32 w 9 + T 119 h) else f32 := by
          unfold slF slp
          rw [e3, t1, t2]
          have e10 : 10 * bz (dmp T c.2.1 k) = if dmp T c.2.1 k = true then 10 else 0 := by cases dmp T c.2.1 k <;> rfl
          rw [e10]
          simp only [decide_eq_true_eq]
        have hsl : sl = true := b36
        subst hsl
        rw [eS]
        by_cases z : slp T c.2.1 k h x.2 = true
        · rw [if_pos z]
          have fo : ∀ a j, ¬ (a = w ∧ (j = 9 ∨ j = 11)) → u2 (u2 f32 w 11 (f32 w 11 + 1)) w 9 (f32 w 9 + T 119 h) a j = f32 a j := fun a j q => by rw [u2_o (by omega), u2_o (by omega)]
          have ex : stX T c k h (wPa T p k own) true x = (((one T c k (T 117 h) (wPa T p k own) x.1).1 + T 119 h, (one T c k (T 117 h) (wPa T p k own) x.1).2), nxt x.2) := by unfold stX onS; rw [if_pos rfl, if_pos z]
          have en : stN T c k h true x.2 = 1 := by unfold stN; rw [if_pos ⟨rfl, z⟩]
          rw [ex, en]
          exact w_step56 hρ kw hw hb hk hl (x := (((one T c k (T 117 h) (wPa T p k own) x.1).1 + T 119 h, (one T c k (T 117 h) (wPa T p k own) x.1).2), nxt x.2)) (n := f w 11 + 1) (q1.cg hb (fun a j r1 r2 => fo a j (by omega))) (q2.cg (fun a j r1 r2 => fo a j (by omega)) (by funext j; exact u2_o (by omega))) (q3.sw.tr ⟨fun a j r1 r2 => fo a j (by omega), fun a r1 r2 r3 r4 => by funext j; exact u2_o (by omega)⟩) ⟨(fo w 6 (by omega)).trans q4.1, (fo w 4 (by omega)).trans q4.2.1, by rw [u2_s, q4.2.2.1], (fo w 7 (by omega)).trans q4.2.2.2.1, (fo w 8 (by omega)).trans q4.2.2.2.2⟩ u2_s ((fo w 12 (by omega)).trans ((y 12 (by omega)).trans x12)) ((fo w 13 (by omega)).trans ((y 13 (by omega)).trans x13)) ((fo w 3 (by omega)).trans ((y 3 (by omega)).trans x3)) ((fo w 2 (by omega)).trans ((y 2 (by omega)).trans x2)) ((fo w 5 (by omega)).trans ((y 5 (by omega)).trans x5)) (by rw [fo w 10 (by omega), y 10 (by omega), x10]; rfl) (by rw [u2_o (by omega), u2_s, y 11 (by omega)]) ⟨(fo w 0 (by omega)).trans (y 0 (by omega)), (fo w 1 (by omega)).trans (y 1 (by omega))⟩ hv (fun f' a1 a2 a3 a4 a5 a6 => ⟨rfl, rfl, a1, a2, a3, a4, a5, a6⟩)
        · rw [if_neg z]
          have ex : stX T c k h (wPa T p k own) true x = (one T c k (T 117 h) (wPa T p k own) x.1, nxt x.2) := by unfold stX onS; rw [if_pos rfl, if_neg z]
          have en : stN T c k h true x.2 = 0 := by unfold stN; rw [if_neg (fun q => z q.2)]
          rw [ex, en]
          exact w_step56 hρ kw hw hb hk hl (x := (one T c k (T 117 h) (wPa T p k own) x.1, nxt x.2)) (n := f w 11) q1 (q2.cg (fun a j r1 r2 => rfl) (by funext j; exact u2_o (by omega))) (q3.sw.tr ⟨fun a j r1 r2 => rfl, fun a r1 r2 r3 r4 => by funext j; exact u2_o (by omega)⟩) q4 u2_s ((y 12 (by omega)).trans x12) ((y 13 (by omega)).trans x13) ((y 3 (by omega)).trans x3) ((y 2 (by omega)).trans x2) ((y 5 (by omega)).trans x5) (by rw [y 10 (by omega), x10]; rfl) (y 11 (by omega)) ⟨y 0 (by omega), y 1 (by omega)⟩ hv (fun f' a1 a2 a3 a4 a5 a6 => ⟨rfl, rfl, a1, a2, a3, a4, by rw [a5]; omega, a6⟩)
    · exfalso; omega
end WSTEP

