section SSPREAD
variable {T : TT} {c : CC} {q : Int} {st : Nat} {b : Nat} {ρ : RT} {wA wB rA rB : Nat}
/-- what a search leaves beside its own rows -/
def SPf (b rB wB : Nat) (f : IT) (g : JT) (f' : IT) (g' : JT) : Prop := (∀ a j, a ≠ 61 → a ≠ 67 → a ≠ rB → ¬ (a = 66 ∧ j = 7) → f' a j = f a j) ∧ (∀ a, a ≠ 60 → a ≠ b + 22 → a ≠ b + 23 → a ≠ wB → g' a = g a)
theorem SPf.rf {rB wB : Nat} {f : IT} {g : JT} : SPf b rB wB f g f g := ⟨fun _ _ _ _ _ _ => rfl, fun _ _ _ _ _ => rfl⟩
theorem SPf.tr {rB wB : Nat} {f f' f'' : IT} {g g' g'' : JT} (h : SPf b rB wB f g f' g') (h' : SPf b rB wB f' g' f'' g'') : SPf b rB wB f g f'' g'' := ⟨fun a j q1 q2 q3 q4 => (h'.1 a j q1 q2 q3 q4).trans (h.1 a j q1 q2 q3 q4), fun a q1 q2 q3 q4 => (h'.2 a q1 q2 q3 q4).trans (h.2 a q1 q2 q3 q4)⟩
/-- one state's pace is in the next row -/
def dnP (T : TT) (c : CC) (hc q : Int) (k p j : Nat) (x : Int) (wB : Nat) (g : JT) : Prop := alv T c hc q k p j → g wB (nsp T c hc k p j) ≠ 0 ∧ g wB (nsp T c hc k p j) ≤ ext (tq T c hc k p j).1 p x
/-- the next row only grows better -/
def bet (wB : Nat) (g g' : JT) : Prop := ∀ j, g wB j ≠ 0 → g' wB j ≠ 0 ∧ g' wB j ≤ g wB j
theorem bet.rf {wB : Nat} {g : JT} : bet wB g g := fun j hj => ⟨hj, by omega⟩
theorem bet.tr {wB : Nat} {g g' g'' : JT} (h : bet wB g g') (h' : bet wB g' g'') : bet wB g g'' := fun j hj => ⟨(h' j (h j hj).1).1, by have := (h j hj).2; have := (h' j (h j hj).1).2; omega⟩
theorem dnP.bet {hc : Int} {k p j : Nat} {x : Int} {wB : Nat} {g g' : JT} (h : dnP T c hc q k p j x wB g) (hb : bet wB g g') : dnP T c hc q k p j x wB g' := fun ha => ⟨(hb _ (h ha).1).1, by have := (hb _ (h ha).1).2; have := (h ha).2; omega⟩
/-- what stands while a stretch is spread -/
def SQ (T : TT) (c : CC) (hc q : Int) (st b k rB wB : Nat) (f : IT) (g : JT) : Prop := CT T b f ∧ GI T c.1 c.2.1 f g ∧ GE T c f ∧ (∃ ns : Nat, f 66 7 = (ns : Int) ∧ NX T c hc q st k rB wB ns f g) ∧ (∀ j, j < 2501 → rl (g wB j)) ∧ f 66 13 = c.2.2.2.2 ∧ f 66 14 = hc ∧ f 66 11 = q
theorem w_sspread {Q : QT} {f0 : IT} {g0 : JT} (hW : TW T b ρ) (hS : SWp ρ wA wB rA rB) (hC : CR c) {h : Nat} (hh : h < nHo T) {k : Nat} (hl : k < nLa T) {j : Nat} (hj : j < 2501) {x : Nat} (hx : x < 1099511627776) (hxd : x % 16777216 < 1048576) (hPf : Pf T c (T 117 h) q st k j (x : Int)) {z3 : Int} {lo hi : Nat} (hlo : 1 ≤ lo) (hhi : hi ≤ 9)
    (hal : ∀ p, lo ≤ p → p ≤ hi → alw k q (p : Int))
    (hQ : ∀ f g, SQ T c (T 117 h) q st b k rB wB f g → SPf b rB wB f0 g0 f g → bet wB g0 g → (∀ p, lo ≤ p → p ≤ hi → dnP T c (T 117 h) q k p j (x : Int) wB g) → Q none ρ f g)
    (p : Nat) (hp : lo ≤ p ∧ p ≤ hi + 1) (f : IT) (g : JT) (hQs : SQ T c (T 117 h) q st b k rB wB f g) (hF : SPf b rB wB f0 g0 f g) (hB : bet wB g0 g) (hA : g wA j = (x : Int)) (hD : ∀ p', lo ≤ p' → p' < p → dnP T c (T 117 h) q k p' j (x : Int) wB g) :
    V_X4_spread Q 62 [.ref 66, .int (iz (j : Int)), .int (iz (k : Int)), .int (iz z3), .int (iz (lo : Int)), .int (iz (hi : Int)), .int (iz (p : Int))] [] ρ f g := by
  have hk := hW.2.2.2.2.1
  have hb := hW.2.1
  have hρ := hW.1
  have h6 := hk.la
  obtain ⟨kA, kB, kC, kD⟩ := hS.kd
  have hS0 := hS
  obtain ⟨⟨s2, s3, s4, s5⟩, sw1, sw2⟩ := hS
  by_cases e : p = hi + 1
  · subst e
    refine V_il6 dX4_spread_62 ?_
    refine V_il5 dX4_spread_64 ?_
    refine V_icmp_gt (tgt := 160) dX4_spread_66 rfl (by first | assumption | (unfold ri at *; omega)) (by first | assumption | (unfold ri at *; omega)) (fun b66 => ?_) (fun b66 => ?_)
    · exact V_return rfl (hQ f g hQs hF hB (fun p' a1 a2 => hD p' a1 (by omega))) dX4_spread_160
    · exfalso; omega
  · have hp9 : 1 ≤ p ∧ p ≤ 9 := by omega
    obtain ⟨hCT, hGI, hGE, ⟨ns, h7, hNX⟩, hrl, h13, h14, h11⟩ := hQs
    have htq := tq_rng hk hC hl hh hp9 hj
    have hma := hC.2.2
    have e56 : f 56 k = T 108 k := by
      have := (hGI.2.2.2.2.2.1 k (by omega)).1
      have t0 := tat0 hk (j := 0) hl (by omega)
      simp [tcl] at t0
      rw [this, t0]
    have hln := hk.lane hl
    obtain ⟨nst, hnst⟩ : ∃ n : Nat, T 108 k = (n : Int) := ⟨(T 108 k).toNat, by omega⟩
    have so : ∀ a i, a ≠ 67 → stdF 67 c.2.2.2.2 ((j / 41 : Nat) : Int) ((j % 41 : Nat) : Int) (T 117 h) f a i = f a i := fun a i q1 => stdF_o (by omega)
    have hCT2 : CT T b (stdF 67 c.2.2.2.2 ((j / 41 : Nat) : Int) ((j % 41 : Nat) : Int) (T 117 h) f) := hCT.cg hb (fun a i q1 q2 => so a i (by omega))
    have hGI2 : GI T c.1 c.2.1 (stdF 67 c.2.2.2.2 ((j / 41 : Nat) : Int) ((j % 41 : Nat) : Int) (T 117 h) f) g := hGI.cg (fun a i q1 q2 => so a i (by omega)) rfl
    have hGE2 : GE T c (stdF 67 c.2.2.2.2 ((j / 41 : Nat) : Int) ((j % 41 : Nat) : Int) (T 117 h) f) := hGE.cg (fun i => so 55 i (by omega))
    have hWS := stdF_ws (w := 67) (f := f) (c := c) (wi := ((j / 41 : Nat) : Int)) (le := ((j % 41 : Nat) : Int)) (hc := T 117 h) (dn := 0)
    have htr := c_tread (g := g) hρ hW.2.2.2.1 hb hk hW.2.2.2.2.2 (w := 67) rfl (by omega) hC hl hh (pa := (p : Int)) (by omega) (n := nst) (by omega) hCT2 hGI2 hGE2 hWS ⟨by simp only; omega, by simp only; omega⟩ (by simp only; omega)
    have etq : thr T c k (T 117 h) (p : Int) nst (0, ((j / 41 : Nat) : Int), ((j % 41 : Nat) : Int), 0) = tq T c (T 117 h) k p j := by
      unfold tq th3
      rw [hnst, Int.toNat_natCast]
    rw [etq] at htr
    have s56 : stdF 67 c.2.2.2.2 ((j / 41 : Nat) : Int) ((j % 41 : Nat) : Int) (T 117 h) f 56 k = (nst : Int) := (so 56 k (by omega)).trans (e56.trans hnst)
    generalize hFs : stdF 67 c.2.2.2.2 ((j / 41 : Nat) : Int) ((j % 41 : Nat) : Int) (T 117 h) f = Fs at *
    have hst : C_X10_stand [.ref 67, .int (iz c.2.2.2.2), .int (iz ((j / 41 : Nat) : Int)), .int (iz ((j % 41 : Nat) : Int)), .int (iz (T 117 h))] ρ f g (fun r ρ' f' g' => r = none ∧ ρ' = ρ ∧ f' = Fs ∧ g' = g) := by rw [← hFs]; exact c_stand rfl
    -- the next pace
    have nxt_ : ∀ f' g', SQ T c (T 117 h) q st b k rB wB f' g' → SPf b rB wB f g f' g' → bet wB g g' → dnP T c (T 117 h) q k p j (x : Int) wB g' → V_X4_spread Q 62 [.ref 66, .int (iz (j : Int)), .int (iz (k : Int)), .int (iz z3), .int (iz (lo : Int)), .int (iz (hi : Int)), .int (iz ((p : Int) + 1))] [] ρ f' g' := fun f' g' a1 a2 a3 a4 =>
      w_sspread hW hS0 hC hh hl hj hx hxd hPf hlo hhi hal hQ (p + 1) (by omega) f' g' a1 (hF.tr a2) (hB.tr a3) (by rw [a2.2 wA (by omega) (by omega) (by omega) (by omega)]; exact hA) (fun p' b1 b2 => by
        by_cases e2 : p' = p
        · subst e2; exact a4
        · exact (hD p' b1 (by omega)).bet a3)
    refine V_il6 dX4_spread_62 ?_
    refine V_il5 dX4_spread_64 ?_
    refine V_icmp_gt (tgt := 160) dX4_spread_66 rfl (by first | assumption | (unfold ri at *; omega)) (by first | assumption | (unfold ri at *; omega)) (fun b66 => ?_) (fun b66 => ?_)
    · exfalso; omega
    · refine V_al0n dX4_spread_69 ?_
      refine V_getR kk66 (by decide) fl_X4_14 (fx_66_1 hρ) dX4_spread_70 ?_
      refine V_al0n dX4_spread_73 ?_
      refine V_getI kk66 (by decide) fl_X4_57 h13 dX4_spread_74 ?_
      refine V_il1n dX4_spread_77 ?_
      refine V_bipush dX4_spread_78 rfl ?_
      refine V_idiv dX4_spread_80 (iz_ne (by unfold ri; omega) (by omega)) (iz_div (by omega) (by omega) (by unfold ri; omega) (by unfold ri; omega)) ?_
      refine V_il1n dX4_spread_81 ?_
      refine V_bipush dX4_spread_82 rfl ?_
      refine V_irem dX4_spread_84 (iz_ne (by unfold ri; omega) (by omega)) (iz_rem (by omega) (by omega) (by unfold ri; omega) (by unfold ri; omega)) ?_
      refine V_al0n dX4_spread_85 ?_
      refine V_getI kk66 (by decide) fl_X4_60 h14 dX4_spread_86 ?_
      refine V_callV (as := [_, _, _, _]) ml_X4_96 im_X10_stand se_X10_stand kk67 (by decide) (by decide) dX4_spread_89 rfl rfl (by decide) (by decide) (Nat.le_of_ble_eq_true rfl) (by decide) (by decide) rfl (hst) ?_
      refine pq4 ?_
      refine V_al0n dX4_spread_92 ?_
      refine V_getR kk66 (by decide) fl_X4_14 (fx_66_1 hρ) dX4_spread_93 ?_
      refine V_al0n dX4_spread_96 ?_
      refine V_getR kk66 (by decide) fl_X4_63 (fx_66_0 hρ) dX4_spread_97 ?_
      refine V_il2n dX4_spread_100 ?_
      refine V_il6 dX4_spread_101 ?_
      refine V_al0n dX4_spread_103 ?_
      refine V_getR kk66 (by decide) fl_X4_63 (fx_66_0 hρ) dX4_spread_104 ?_
      refine V_il2n dX4_spread_107 ?_
      refine V_callV (as := [_]) ml_X4_100 im_X0_stepsOf se_X0_stepsOf kk55 (by decide) (by decide) dX4_spread_108 rfl rfl (by decide) (by decide) (Nat.le_of_ble_eq_true rfl) (by decide) (by decide) rfl (c_stepsOf (g := g) hρ (k := k) (by omega) s56) ?_
      refine pq4 ?_
      refine V_callV (as := [_, _, _, _]) ml_X4_103 im_X10_tread se_X10_tread kk67 (by decide) (by decide) dX4_spread_111 rfl rfl (by decide) (by decide) (Nat.le_of_ble_eq_true rfl) (by decide) (by decide) rfl (htr) ?_
      rintro r111 ρ111 f111 g111 ⟨rfl, s111_0, q1, q2, q3, q4⟩
      obtain rfl := s111_0.symm
      obtain ⟨u6, u4, u9, u7, u8⟩ := q4
      have fo : ∀ a i, a ≠ 61 → a ≠ 67 → f111 a i = f a i := fun a i r1 r2 => (q3.1 a i r1 (by omega)).trans (so a i r2)
      have go : ∀ a, a ≠ 60 → a ≠ b + 22 → a ≠ b + 23 → g111 a = g a := fun a r1 r2 r3 => q3.2 a r1 r2 r3
      have ho := c_isOut (w := 67) (ρ := ρ) (f := f111) (g := g111) rfl (by rw [u8]; unfold ri; omega)
      rw [u8] at ho
      have hSP : SPf b rB wB f g f111 g111 := ⟨fun a i r1 r2 r3 r4 => fo a i r1 r2, fun a r1 r2 r3 r4 => go a r1 r2 r3⟩
      have hNX2 : NX T c (T 117 h) q st k rB wB ns f111 g111 := by
        unfold NX
        rw [go wB (by omega) (by omega) (by omega)]
        refine ⟨fun j hj hne => ?_, fun i hi => ?_, hNX.2.2.1, fun i i' hi hi' hii => hNX.2.2.2 i i' hi hi' (by rw [fo rB i (by omega) (by omega), fo rB i' (by omega) (by omega)] at hii; exact hii)⟩
        · obtain ⟨r1, i, r2, r3⟩ := hNX.1 j hj hne
          exact ⟨r1, i, r2, (fo rB i (by omega) (by omega)).trans r3⟩
        · obtain ⟨j, r1, r2, r3⟩ := hNX.2.1 i hi
          exact ⟨j, r1, (fo rB i (by omega) (by omega)).trans r2, r3⟩
      have hSQ : SQ T c (T 117 h) q st b k rB wB f111 g111 := ⟨q1, q2, hGE.cg (fun i => fo 55 i (by omega) (by omega)), ⟨ns, (fo 66 7 (by omega) (by omega)).trans h7, hNX2⟩, by rw [go wB (by omega) (by omega) (by omega)]; exact hrl, (fo 66 13 (by omega) (by omega)).trans h13, (fo 66 14 (by omega) (by omega)).trans h14, (fo 66 11 (by omega) (by omega)).trans h11⟩
      refine V_al0n dX4_spread_114 ?_
      refine V_getR kk66 (by decide) fl_X4_14 (fx_66_1 hρ) dX4_spread_115 ?_
      refine V_callV (as := []) ml_X4_107 im_X10_isOut se_X10_isOut kk67 (by decide) (by decide) dX4_spread_118 rfl rfl (by decide) (by decide) (Nat.le_of_ble_eq_true rfl) (by decide) (by decide) rfl (ho) ?_
      refine pq4 ?_
      refine V_bf (tgt := 154) dX4_spread_121 rfl (fun b121 => ?_) (fun b121 => ?_)
      · refine V_inc6 dX4_spread_154 (by decide) rfl ?_
        refine V_goto (tgt := 62) dX4_spread_157 rfl ?_
        exact nxt_ f111 g111 hSQ hSP (fun j hj => by rw [go wB (by omega) (by omega) (by omega)]; exact ⟨hj, by omega⟩) (fun ha => absurd (by simp at b121; have := htq.2.2.1; omega) ha.2.2)
      · have hlv : (tq T c (T 117 h) k p j).2.2.1 ≠ 0 := by simp at b121; omega
        obtain ⟨tN, htN⟩ : ∃ n : Nat, (tq T c (T 117 h) k p j).1 = (n : Int) := ⟨(tq T c (T 117 h) k p j).1.toNat, by omega⟩
        have hav : alv T c (T 117 h) q k p j := ⟨hp9, hal p hp.1 (by omega), hlv⟩
        have ens : (tq T c (T 117 h) k p j).2.1 * 41 + (tq T c (T 117 h) k p j).2.2.1 = ((nsp T c (T 117 h) k p j : Nat) : Int) := by unfold nsp; omega
        have gA : g111 wA j = (x : Int) := by rw [go wA (by omega) (by omega) (by omega)]; exact hA
        have hrc := c_reach (T := T) (c := c) (hc := T 117 h) (q := q) (st := st) (f := f111) (g := g111) (k := k) (s := nsp T c (T 117 h) k p j) (W := x) (t := tN) (p := p) (ns := ns) hρ hS0 htq.2.2.2 hx hxd (by omega) hp9 (u9.trans htN) ((fo 66 7 (by omega) (by omega)).trans h7) ⟨j, (x : Int), p, hPf, hav, rfl, by rw [htN]⟩ hNX2 (by rw [go wB (by omega) (by omega) (by omega)]; exact hrl)
        rw [← ens] at hrc
        refine V_al0n dX4_spread_124 ?_
        refine V_al0n dX4_spread_125 ?_
        refine V_getR kk66 (by decide) fl_X4_14 (fx_66_1 hρ) dX4_spread_126 ?_
        refine V_getI kk67 (by decide) fl_X4_111 u7 dX4_spread_129 ?_
        refine V_bipush dX4_spread_132 rfl ?_
        refine V_imul dX4_spread_134 ?_
        refine V_al0n dX4_spread_135 ?_
        refine V_getR kk66 (by decide) fl_X4_14 (fx_66_1 hρ) dX4_spread_136 ?_
        refine V_getI kk67 (by decide) fl_X4_114 u8 dX4_spread_139 ?_
        refine V_iadd dX4_spread_142 ?_
        refine V_al0n dX4_spread_143 ?_
        refine V_getR kk66 (by decide) fl_X4_18 s2 dX4_spread_144 ?_
        refine V_il1n dX4_spread_147 ?_
        refine V_lald (k := j) kA (kdlt kA (by decide)) (by first | rfl | omega) (by omega) (by first | decide | assumption | omega) gA dX4_spread_148 ?_
        refine V_il6 dX4_spread_149 ?_
        refine V_callV (as := [_, _, _]) ml_X4_117 im_X4_reach se_X4_reach kk66 (by decide) (by decide) dX4_spread_151 rfl rfl (by decide) (by decide) (Nat.le_of_ble_eq_true rfl) (by decide) (by decide) rfl (hrc) ?_
        rintro r151 ρ151 f151 g151 ⟨rfl, s151_0, r1, r2, ⟨ns', r3, r4⟩, r5, r6, r7⟩
        obtain rfl := s151_0.symm
        refine V_inc6 dX4_spread_154 (by decide) rfl ?_
        refine V_goto (tgt := 62) dX4_spread_157 rfl ?_
        have hSP2 : SPf b rB wB f g f151 g151 := hSP.tr ⟨fun a i z1 z2 z3 z4 => r1 a i z3 z4, fun a z1 z2 z3 z4 => r2 a z4⟩
        have q1' : CT T b f151 := q1.cg hb (fun a i z1 z2 => r1 a i (by omega) (by omega))
        have q2' : GI T c.1 c.2.1 f151 g151 := q2.cg (fun a i z1 z2 => r1 a i (by omega) (by omega)) (r2 60 (by omega))
        have fo2 : ∀ i, i ≠ 7 → f151 66 i = f 66 i := fun i hi => (r1 66 i (by omega) (by omega)).trans (fo 66 i (by omega) (by omega))
        exact nxt_ f151 g151 ⟨q1', q2', hGE.cg (fun i => (r1 55 i (by omega) (by omega)).trans (fo 55 i (by omega) (by omega))), ⟨ns', r3, r4⟩, r7, (fo2 13 (by omega)).trans h13, (fo2 14 (by omega)).trans h14, (fo2 11 (by omega)).trans h11⟩ hSP2 (fun i hi => r6 i (by rw [go wB (by omega) (by omega) (by omega)]; exact hi) |> fun w => ⟨w.1, by have := w.2; rw [go wB (by omega) (by omega) (by omega)] at this; exact this⟩) (fun _ => ⟨r5.1, by rw [htN]; exact r5.2⟩)
termination_by hi + 1 - p
end SSPREAD

