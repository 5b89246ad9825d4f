section SEEK2
variable {T : TT} {c : CC} {q : Int} {st : Nat} {b : Nat}
theorem w_sk90 {Q : QT} {ρ : RT} {wA wB rA rB : Nat} {f1 : IT} {g1 : JT} (hW : TW T b ρ) (hS : SWp ρ wA wB rA rB) (hC : CR c) {h : Nat} (hh : h < nHo T) (hst : st < 2501) {k : Nat} (hl : k < nLa T) (hq : 0 ≤ q ∧ q ≤ 9) {n : Nat} (hL : LV T c (T 117 h) q st k rA wA n f1 g1) (h66 : f1 66 6 = (n : Int)) {a1 a2 a3 : Int}
    (hX : ∀ f g, SQ T c (T 117 h) q st b k rB wB f g → SPf b rB wB f1 g1 f g → (∀ i, i < n → ∀ j x : Nat, f1 rA i = (j : Int) → g1 wA j = (x : Int) → ∀ p, dnP T c (T 117 h) q k p j (x : Int) wB g) → V_X4_seek Q 118 [.ref 66, .int (iz a1), .int (iz a2), .int (iz a3), .int (iz (k : Int)), .null] [] ρ f g)
    (i : Nat) (hi : i ≤ n) (f : IT) (g : JT) (hQs : SQ T c (T 117 h) q st b k rB wB f g) (hF : SPf b rB wB f1 g1 f g) (hD : ∀ i', i' < i → ∀ j x : Nat, f1 rA i' = (j : Int) → g1 wA j = (x : Int) → ∀ p, dnP T c (T 117 h) q k p j (x : Int) wB g) :
    V_X4_seek Q 90 [.ref 66, .int (iz a1), .int (iz a2), .int (iz a3), .int (iz (k : Int)), .int (iz (i : Int))] [] ρ f g := by
  have hk := hW.2.2.2.2.1
  have hρ := hW.1
  have hb := hW.2.1
  have h6 := hk.la
  obtain ⟨kA, kB, kC, kD⟩ := hS.kd
  have hS0 := hS
  obtain ⟨⟨s2, s3, s4, s5⟩, sw1, sw2⟩ := hS
  have e6 : f 66 6 = (n : Int) := (hF.1 66 6 (by omega) (by omega) (by omega) (by omega)).trans h66
  have hn := hL.2.2.2.1
  by_cases e : i = n
  · subst e
    refine V_il5 dX4_seek_90 ?_
    refine V_al0n dX4_seek_92 ?_
    refine V_getI kk66 (by decide) fl_X4_32 e6 dX4_seek_93 ?_
    refine V_icmp_ge (tgt := 118) dX4_seek_96 rfl (by first | assumption | (unfold ri at *; omega)) (by first | assumption | (unfold ri at *; omega)) (fun b96 => ?_) (fun b96 => ?_)
    · exact V_weak (by repeat (first | exact wk_n | refine wk_c (Or.inr rfl) ?_ | refine wk_c (Or.inl rfl) ?_)) (hX f g hQs hF hD)
    · exfalso; omega
  · obtain ⟨j, x, hj, hfj, hgj, hPf, -⟩ := hL.1 i (by omega)
    have hr := Pf_rng hk hC hh hst k j _ (by omega) hPf
    have h5 : (16 : Int) ^ k ≤ 16 ^ 5 := p16_le (by omega)
    have e5 : (16 : Int) ^ 5 = 1048576 := by decide
    rw [e5] at h5
    have hfj' : f rA i = (j : Int) := (hF.1 rA i (by omega) (by omega) (by omega) (by omega)).trans hfj
    have hgj' : g wA j = (x : Int) := by rw [hF.2 wA (by omega) (by omega) (by omega) (by omega)]; exact hgj
    have hsp := c_sspread hW hS0 hC hh hl hj (x := x) (by have := hr.2; omega) (by have := hr.2; omega) hPf hq hQs hgj'
    refine V_il5 dX4_seek_90 ?_
    refine V_al0n dX4_seek_92 ?_
    refine V_getI kk66 (by decide) fl_X4_32 e6 dX4_seek_93 ?_
    refine V_icmp_ge (tgt := 118) dX4_seek_96 rfl (by unfold ri; omega) (by unfold ri; omega) (fun b96 => ?_) (fun b96 => ?_)
    · exfalso; omega
    · refine V_al0n dX4_seek_99 ?_
      refine V_al0n dX4_seek_100 ?_
      refine V_getR kk66 (by decide) fl_X4_25 s4 dX4_seek_101 ?_
      refine V_il5 dX4_seek_104 ?_
      refine V_iald (k := i) kC (kdlt kC (by decide)) (by first | rfl | omega) (by omega) (by first | decide | assumption | omega) hfj' dX4_seek_106 ?_
      refine V_il4 dX4_seek_107 ?_
      refine V_callV (as := [_, _]) ml_X4_82 im_X4_spread se_X4_spread kk66 (by decide) (by decide) dX4_seek_109 rfl rfl (by decide) (by decide) (Nat.le_of_ble_eq_true rfl) (by decide) (by decide) rfl (hsp) ?_
      rintro r109 ρ109 f109 g109 ⟨rfl, s109_0, t1, t2, t3, t4⟩
      obtain rfl := s109_0.symm
      refine V_inc5 dX4_seek_112 (by decide) rfl ?_
      refine V_goto (tgt := 90) dX4_seek_115 rfl ?_
      exact w_sk90 hW hS0 hC hh hst hl hq hL h66 hX (i + 1) (by omega) f109 g109 t1 (hF.tr t2) (fun i' z1 j' x' z2 z3 p => by
        by_cases e2 : i' = i
        · subst e2
          have ej : j' = j := by rw [hfj] at z2; omega
          subst ej
          have ex : x' = x := by rw [hgj] at z3; omega
          subst ex
          exact t4 p
        · exact (hD i' (by omega) j' x' z2 z3 p).bet t3)
termination_by n - i
theorem w_sk71 {Q : QT} {ρ0 : RT} {f0 : IT} {g0 : JT} (hC : CR c) {h : Nat} (hh : h < nHo T) (hst : st < 2501) (hq : 0 ≤ q ∧ q ≤ 9) {a1 a2 a3 : Int}
    (hQ : ∀ (ρ : RT) (f : IT) (g : JT) (wA wB rA rB : Nat), TW T b ρ → SWp ρ wA wB rA rB → CT T b f → GI T c.1 c.2.1 f g → (∀ j, j < 2501 → g 68 j = 0 ∧ g 69 j = 0) → f 66 7 = 0 → g 66 12 = bwV T c (T 117 h) q st → SKf b ρ0 f0 g0 ρ f g → V_X4_seek Q 132 [.ref 66, .null, .null, .null, .null, .null] [] ρ f g)
    (k : Nat) (hkl : k ≤ nLa T) (ρ : RT) (f : IT) (g : JT) (wA wB rA rB n : Nat) (hW : TW T b ρ) (hS : SWp ρ wA wB rA rB) (hL : LV T c (T 117 h) q st k rA wA n f g) (h66 : f 66 6 = (n : Int)) (hQs : SQ T c (T 117 h) q st b k rB wB f g) (h67 : f 66 7 = 0) (hz : ∀ j, j < 2501 → g wB j = 0) (hF : SKf b ρ0 f0 g0 ρ f g) :
    V_X4_seek Q 71 [.ref 66, .int (iz a1), .int (iz a2), .int (iz a3), .int (iz (k : Int)), .null] [] ρ f g := by
  have hk := hW.2.2.2.2.1
  have hρ := hW.1
  have hb := hW.2.1
  have h6 := hk.la
  have e12 : T 104 (12 + 0) = (nLa T : Int) := h6.1
  have hS0 := hS
  obtain ⟨⟨s2, s3, s4, s5⟩, sw1, sw2⟩ := hS
  have hn := hL.2.2.2.1
  by_cases e : k = nLa T
  · have hL' := hL
    rw [e] at hL'
    have hmn := mnB_bw hk hC hh hst hL'
    have hbd : ∀ i, i < n → ∃ j x : Nat, j < 2501 ∧ f rA i = (j : Int) ∧ g wA j = (x : Int) ∧ x < 1099511627776 := fun i hi => by
      obtain ⟨j, x, z1, z2, z3, z4, -⟩ := hL.1 i hi
      have hr := Pf_rng hk hC hh hst k j _ hkl z4
      exact ⟨j, x, z1, z2, z3, by have := hr.2.2; omega⟩
    have hend := c_send (f := f) (g := g) hρ hS0 hn h66 hbd hL.2.2.2.2
    rw [hmn] at hend
    refine V_il4 dX4_seek_71 ?_
    refine V_al0n dX4_seek_73 ?_
    refine V_getR kk66 (by decide) fl_X4_63 (fx_66_0 hρ) dX4_seek_74 ?_
    refine V_getR kk55 (by decide) fl_X4_73 hW.2.2.2.1 dX4_seek_77 ?_
    refine V_iconst dX4_seek_80 ?_
    refine V_callV (as := [_]) ml_X4_77 im_X7_size se_X7_size (kb_0 hb) (by decide) (kl_0 hb) dX4_seek_81 rfl rfl (by decide) (by decide) (Nat.le_of_ble_eq_true rfl) (by decide) (by decide) rfl (c_size hρ hb hQs.1 (i := 0) (by omega)) ?_
    refine pq4 ?_
    refine V_icmp_ge (tgt := 128) dX4_seek_84 rfl (by unfold ri; omega) (by unfold ri; omega) (fun b84 => ?_) (fun b84 => ?_)
    · refine V_al0n dX4_seek_128 ?_
      refine V_callV (as := []) ml_X4_89 im_X4_end se_X4_end kk66 (by decide) (by decide) dX4_seek_129 rfl rfl (by decide) (by decide) (Nat.le_of_ble_eq_true rfl) (by decide) (by decide) rfl (hend) ?_
      refine pq4 ?_
      have gz : ∀ a j, a ≠ 66 → a ≠ wA → u2 (clW rA wA f g n) 66 12 (bwV T c (T 117 h) q st) a j = g a j := fun a j z1 z2 => by rw [u2_o (by omega)]; unfold clW; rw [if_neg (fun w => z2 w.1)]
      have gA : ∀ j, j < 2501 → u2 (clW rA wA f g n) 66 12 (bwV T c (T 117 h) q st) wA j = 0 := fun j hj => by
        rw [u2_o (by omega)]
        unfold clW
        by_cases w : g wA j = 0
        · split
          · rfl
          · exact w
        · obtain ⟨i, z1, z2⟩ := hL.2.2.1 j hj w
          rw [if_pos ⟨rfl, i, z1, z2⟩]
      refine V_weak (by repeat (first | exact wk_n | refine wk_c (Or.inr rfl) ?_ | refine wk_c (Or.inl rfl) ?_)) (hQ ρ f _ wA wB rA rB hW hS0 hQs.1 (hQs.2.1.cg (fun _ _ _ _ => rfl) (by funext j; exact gz 60 j (by omega) (by omega))) (fun j hj => ?_) h67 u2_s (hF.tr ⟨fun _ _ _ => rfl, fun _ _ _ _ _ _ _ => rfl, fun _ _ _ => rfl, fun a z1 z2 z3 z4 z5 z6 => by funext j; exact gz a j z4 (by omega)⟩))
      rcases sw1 with ⟨rfl, rfl⟩ | ⟨rfl, rfl⟩
      · exact ⟨gA j hj, (gz 69 j (by omega) (by omega)).trans (hz j hj)⟩
      · exact ⟨(gz 68 j (by omega) (by omega)).trans (hz j hj), gA j hj⟩
    · exfalso; omega
  · have hl : k < nLa T := by omega
    have X : ∀ f' g', SQ T c (T 117 h) q st b k rB wB f' g' → SPf b rB wB f g f' g' → (∀ i, i < n → ∀ j x : Nat, f rA i = (j : Int) → g wA j = (x : Int) → ∀ p, dnP T c (T 117 h) q k p j (x : Int) wB g') → V_X4_seek Q 118 [.ref 66, .int (iz a1), .int (iz a2), .int (iz a3), .int (iz (k : Int)), .null] [] ρ f' g' := fun f' g' hQ' hF' hD' => by
      obtain ⟨r1, r2, r3, ⟨ns, r4, r5⟩, r6, r7, r8, r9⟩ := hQ'
      have hLn := hL.next hk hC hh hst hl r5 hD'
      have e6 : f' 66 6 = (n : Int) := (hF'.1 66 6 (by omega) (by omega) (by omega) (by omega)).trans h66
      have frA : ∀ i, f' rA i = f rA i := fun i => hF'.1 rA i (by omega) (by omega) (by omega) (by omega)
      have gwA : g' wA = g wA := hF'.2 wA (by omega) (by omega) (by omega) (by omega)
      have htu := c_turnOver (f := f') (g := g') hρ hS0 hn e6 (fun i hi => by
        obtain ⟨j, x, z1, z2, -⟩ := hL.1 i hi
        exact ⟨j, z1, (frA i).trans z2⟩)
      refine V_al0n dX4_seek_118 ?_
      refine V_callV (as := []) ml_X4_86 im_X4_turnOver se_X4_turnOver kk66 (by decide) (by decide) dX4_seek_119 rfl rfl (by decide) (by decide) (Nat.le_of_ble_eq_true rfl) (by decide) (by decide) rfl (htu) ?_
      refine pq4 ?_
      refine V_inc4 dX4_seek_122 (by decide) rfl ?_
      refine V_goto (tgt := 71) dX4_seek_125 rfl ?_
      have ρo : ∀ a i, ¬ (a = 66 ∧ 2 ≤ i) → u2 (u2 (u2 (u2 ρ 66 2 (some wB)) 66 3 (some wA)) 66 4 (some rB)) 66 5 (some rA) a i = ρ a i := fun a i z => by rw [u2_o (by omega), u2_o (by omega), u2_o (by omega), u2_o (by omega)]
      have hW2 : TW T b (u2 (u2 (u2 (u2 ρ 66 2 (some wB)) 66 3 (some wA)) 66 4 (some rB)) 66 5 (some rA)) := hW.cg (fun a i z1 z2 => ρo a i z2)
      have hS2 : SWp (u2 (u2 (u2 (u2 ρ 66 2 (some wB)) 66 3 (some wA)) 66 4 (some rB)) 66 5 (some rA)) wB wA rB rA := by
        refine ⟨⟨?_, ?_, ?_, u2_s⟩, by omega, by omega⟩
        · rw [u2_o (by omega), u2_o (by omega), u2_o (by omega), u2_s]
        · rw [u2_o (by omega), u2_o (by omega), u2_s]
        · rw [u2_o (by omega), u2_s]
      have fo : ∀ a i, ¬ (a = 66 ∧ (i = 6 ∨ i = 7)) → u2 (u2 f' 66 6 (f' 66 7)) 66 7 0 a i = f' a i := fun a i z => by rw [u2_o (by omega), u2_o (by omega)]
      have go : ∀ a, a ≠ wA → clW rA wA f' g' n a = g' a := fun a z => by funext j; unfold clW; rw [if_neg (fun w => z w.1)]
      have gA : ∀ j, j < 2501 → clW rA wA f' g' n wA j = 0 := fun j hj => by
        unfold clW
        by_cases w : g' wA j = 0
        · split
          · rfl
          · exact w
        · rw [gwA] at w
          obtain ⟨i, z1, z2⟩ := hL.2.2.1 j hj w
          rw [if_pos ⟨rfl, i, z1, (frA i).trans z2⟩]
      have hL2 : LV T c (T 117 h) q st (k + 1) rB wB ns (u2 (u2 f' 66 6 (f' 66 7)) 66 7 0) (clW rA wA f' g' n) := by
        unfold LV
        rw [go wB (by omega)]
        have er : u2 (u2 f' 66 6 (f' 66 7)) 66 7 0 rB = f' rB := by funext i; exact fo rB i (by omega)
        rw [er]
        exact hLn
      have hNX0 : NX T c (T 117 h) q st (k + 1) rA wA 0 (u2 (u2 f' 66 6 (f' 66 7)) 66 7 0) (clW rA wA f' g' n) := by
        refine ⟨fun j hj hne => absurd (gA j hj) hne, fun i hi => by omega, ?_, fun i i' hi => by omega⟩
        have : cntz (clW rA wA f' g' n wA) 2501 = cntz (fun _ => 0) 2501 := cntz_cg 2501 (fun j hj => by rw [gA j hj])
        rw [this]
        decide +kernel
      have hSQ2 : SQ T c (T 117 h) q st b (k + 1) rA wA (u2 (u2 f' 66 6 (f' 66 7)) 66 7 0) (clW rA wA f' g' n) := ⟨r1.cg hb (fun a i z1 z2 => fo a i (by omega)), r2.cg (fun a i z1 z2 => fo a i (by omega)) (go 60 (by omega)), r3.cg (fun i => fo 55 i (by omega)), ⟨0, u2_s, hNX0⟩, fun j hj => by rw [gA j hj]; unfold rl; omega, (fo 66 13 (by omega)).trans r7, (fo 66 14 (by omega)).trans r8, (fo 66 11 (by omega)).trans r9⟩
      exact w_sk71 hC hh hst hq hQ (k + 1) (by omega) _ _ _ wB wA rB rA ns hW2 hS2 hL2 (by rw [u2_o (by omega), u2_s]; exact r4) hSQ2 u2_s gA (hF.tr ⟨fun a i z => ρo a i z, fun a i z1 z2 z3 z4 z5 => (fo a i (by omega)).trans (hF'.1 a i z1 z3 (by omega) (by omega)), fun i z1 z2 => (fo 66 i (by omega)).trans (hF'.1 66 i (by omega) (by omega) (by omega) (by omega)), fun a z1 z2 z3 z4 z5 z6 => (go a (by omega)).trans (hF'.2 a z1 z2 z3 (by omega))⟩)
    refine V_il4 dX4_seek_71 ?_
    refine V_al0n dX4_seek_73 ?_
    refine V_getR kk66 (by decide) fl_X4_63 (fx_66_0 hρ) dX4_seek_74 ?_
    refine V_getR kk55 (by decide) fl_X4_73 hW.2.2.2.1 dX4_seek_77 ?_
    refine V_iconst dX4_seek_80 ?_
    refine V_callV (as := [_]) ml_X4_77 im_X7_size se_X7_size (kb_0 hb) (by decide) (kl_0 hb) dX4_seek_81 rfl rfl (by decide) (by decide) (Nat.le_of_ble_eq_true rfl) (by decide) (by decide) rfl (c_size hρ hb hQs.1 (i := 0) (by omega)) ?_
    refine pq4 ?_
    refine V_icmp_ge (tgt := 128) dX4_seek_84 rfl (by unfold ri; omega) (by unfold ri; omega) (fun b84 => ?_) (fun b84 => ?_)
    · exfalso; omega
    · refine V_iconst dX4_seek_87 ?_
      refine V_is5 dX4_seek_88 (by decide) rfl ?_
      exact w_sk90 hW hS0 hC hh hst hl hq hL h66 X 0 (by omega) f g hQs SPf.rf (fun i' z => by omega)
termination_by nLa T - k
end SEEK2

