section CBEATS
variable {T : TT} {b : Nat} {ρ : RT}
theorem w_cbeats {Q : QT} {f0 : IT} {g0 : JT} (hW : TW T b ρ) {sk : Int} {ra : Bool} (hs : f0 0 5 = sk) (hsk : 0 ≤ sk ∧ sk ≤ 30) (hr : f0 0 6 = bz ra) (h5 : f0 55 5 < 999000) {m p : Nat} (hm : m < nMe T) (hp : p < nPl T) {most R : Int} (hmo : ri most) {v1 : Value}
    (hQ : ∀ (f : IT) (g : JT), CT T b f → QW T b 10 f0 g0 f g → Q (some (.int (iz R))) ρ f g)
    (i : Nat) (hi : i ≤ 10) (n d : Int) (f : IT) (g : JT) (hC : CT T b f) (hq : QW T b (i : Int) f0 g0 f g) (hd : g 65 14 = d) (hR : (beatR T ra sk m p most (10 - i) (n, d)).1 = R) :
    V_X11_beats Q 43 [.ref 0, v1, .int (iz (m : Int)), .int (iz (p : Int)), .int (iz most), .int (iz n), .int (iz (i : Int))] [] ρ f g := by
  have hk := hW.2.2.2.2.1
  have hρ := hW.1
  have hb := hW.2.1
  have hq0 := hq
  obtain ⟨⟨fl0, ra0, hG⟩, hA, hAG⟩ := hq
  have hten := tenR_ri hk (ra := ra) hsk hm hp d
  have hdr := c_drawRace (g := g) (d := d) hW hC hG (by have := hAG.2; omega) hm hp ((hA.1 0 5 (by omega) (by omega)).trans hs) hsk ((hA.1 0 6 (by omega) (by omega)).trans hr) hd
  refine V_il6 dX11_beats_43 ?_
  refine V_bipush dX11_beats_45 rfl ?_
  refine V_icmp_ge (tgt := 80) dX11_beats_47 rfl (by unfold ri; omega) (by unfold ri; omega) (fun b47 => ?_) (fun b47 => ?_)
  · rw [show 10 - i = 0 by omega] at hR
    simp only [beatR] at hR
    subst hR
    refine V_il5 dX11_beats_80 ?_
    exact V_ireturn rfl (hQ f g hC ⟨⟨fl0, ra0, hG⟩, hA, hAG.wk (by omega)⟩) dX11_beats_82
  · rw [show 10 - i = (10 - (i + 1)) + 1 by omega, beatR] at hR
    refine V_al0n dX11_beats_50 ?_
    refine V_il2n dX11_beats_51 ?_
    refine V_il3n dX11_beats_52 ?_
    refine V_callV (as := [_, _]) ml_X11_351 im_X11_drawRace se_X11_drawRace kk0 (by decide) (by decide) dX11_beats_53 rfl rfl (by decide) (by decide) (Nat.le_of_ble_eq_true rfl) (by decide) (by decide) rfl (hdr) ?_
    rintro r53 ρ53 f53 g53 ⟨rfl, s53_0, q1, q2, q3, q4, q5, q6, q7, q8⟩
    obtain rfl := s53_0.symm
    have hq2 : QW T b (((i + 1 : Nat)) : Int) f0 g0 f53 g53 := ⟨q2, hA.tr q3, (hAG.tr q4).wk (by omega)⟩
    refine V_bt (tgt := 74) dX11_beats_56 rfl (fun b56 => ?_) (fun b56 => ?_)
    · refine V_inc6 dX11_beats_74 (by decide) rfl ?_
      refine V_goto (tgt := 43) dX11_beats_77 rfl ?_
      exact V_weak (by repeat (first | exact wk_n | refine wk_c (Or.inr rfl) ?_ | refine wk_c (Or.inl rfl) ?_)) (w_cbeats hW hs hsk hr h5 hm hp hmo hQ (i + 1) (by omega) n _ f53 g53 q1 hq2 q8 (by rw [← hR]; rw [show decide (tenR (rcS T ra sk m p d) < 99999 ∧ tenR (rcS T ra sk m p d) ≤ most) = false by simp at b56 ⊢; omega]; simp [bz]))
    · refine V_al0n dX11_beats_59 ?_
      refine V_getR kk0 (by decide) fl_X11_78 (fx_0_15 hρ) dX11_beats_60 ?_
      refine V_getI kk65 (by decide) fl_X11_241 rfl dX11_beats_63 ?_
      refine V_il4 dX11_beats_66 ?_
      refine V_icmp_gt (tgt := 74) dX11_beats_68 rfl (by unfold ri; omega) hmo (fun b68 => ?_) (fun b68 => ?_)
      · refine V_inc6 dX11_beats_74 (by decide) rfl ?_
        refine V_goto (tgt := 43) dX11_beats_77 rfl ?_
        exact V_weak (by repeat (first | exact wk_n | refine wk_c (Or.inr rfl) ?_ | refine wk_c (Or.inl rfl) ?_)) (w_cbeats hW hs hsk hr h5 hm hp hmo hQ (i + 1) (by omega) n _ f53 g53 q1 hq2 q8 (by rw [← hR]; rw [show decide (tenR (rcS T ra sk m p d) < 99999 ∧ tenR (rcS T ra sk m p d) ≤ most) = false by simp at b56 ⊢; omega]; simp [bz]))
      · refine V_inc5 dX11_beats_71 (by decide) rfl ?_
        refine V_inc6 dX11_beats_74 (by decide) rfl ?_
        refine V_goto (tgt := 43) dX11_beats_77 rfl ?_
        exact V_weak (by repeat (first | exact wk_n | refine wk_c (Or.inr rfl) ?_ | refine wk_c (Or.inl rfl) ?_)) (w_cbeats hW hs hsk hr h5 hm hp hmo hQ (i + 1) (by omega) (n + 1) _ f53 g53 q1 hq2 q8 (by rw [← hR]; have := q7 (by simpa using b56); rw [show decide (tenR (rcS T ra sk m p d) < 99999 ∧ tenR (rcS T ra sk m p d) ≤ most) = true by simp at b56 ⊢; omega]; simp [bz]))
termination_by 10 - i
variable {f : IT} {g : JT}
theorem QW.g65 {fl ra : Bool} (hG : GI T fl ra f g) {x : Int} {n : Int} (hn : 0 ≤ n) : QW T b n f g f (u2 g 65 14 x) := ⟨⟨fl, ra, hG.cg (fun _ _ _ _ => rfl) (by funext j; exact u2_o (by omega))⟩, ⟨fun _ _ _ _ => rfl, fun a _ _ _ z => by funext j; exact u2_o (by omega)⟩, AG.rf.wk hn⟩
theorem c_beats (hW : TW T b ρ) (hC : CT T b f) {fl0 ra0 : Bool} (hG : GI T fl0 ra0 f g) (h5 : f 55 5 < 999000) {sk : Int} {ra : Bool} (hs : f 0 5 = sk) (hsk : 0 ≤ sk ∧ sk ≤ 30) (hr : f 0 6 = bz ra) {sd m p w : Int} (rsd : ri sd) (rm : ri m) (rp : ri p) (rw_ : ri w) :
    C_X11_beats [.ref 0, .int (iz sd), .int (iz m), .int (iz p), .int (iz w)] ρ f g (fun r ρ' f' g' => r = some (.int (iz (aBeats T ra sk sd m p w))) ∧ ρ' = ρ ∧ QW T b 10 f g f' g') := by
  have hk := hW.2.2.2.2.1
  have hρ := hW.1
  have hb := hW.2.1
  refine Ct.ofV (by decide) rfl (Nat.le_of_ble_eq_true rfl) ?_
  by_cases c : 0 ≤ sd ∧ (okM T m && okP T p) = true ∧ (0 ≤ w ∧ w ≤ 99999)
  · obtain ⟨c0_, c1, c3⟩ := c
    have c2 := c1
    rw [Bool.and_eq_true] at c2
    obtain ⟨mN, rfl, hm⟩ := okM_at c2.1
    obtain ⟨pN, rfl, hp⟩ := okP_at c2.2
    have ea : aBeats T ra sk sd (mN : Int) (pN : Int) w = (beatR T ra sk mN pN w 10 (0, sd)).1 := by
      unfold aBeats
      rw [show decide (0 ≤ sd) = true by simpa using c0_, Bool.true_and, c1, show zin w 0 99999 = true by unfold zin; simpa using c3, Bool.and_true, if_pos rfl, Int.toNat_natCast, Int.toNat_natCast]
    refine V_il1n dX11_beats_0 ?_
    refine V_if_lt (tgt := 26) dX11_beats_1 rfl rsd (fun b1 => ?_) (fun b1 => ?_)
    · exfalso; omega
    · refine V_al0n dX11_beats_4 ?_
      refine V_il2n dX11_beats_5 ?_
      refine V_il3n dX11_beats_6 ?_
      refine V_callV (as := [_, _]) ml_X11_203 im_X11_canRun se_X11_canRun kk0 (by decide) (by decide) dX11_beats_7 rfl rfl (by decide) (by decide) (Nat.le_of_ble_eq_true rfl) (by decide) (by decide) rfl (c_canRun hW hC rm rp) ?_
      refine pq4 ?_
      refine V_bt (tgt := 26) dX11_beats_10 rfl (fun b10 => ?_) (fun b10 => ?_)
      · rw [c1] at b10; cases b10
      · refine V_il4 dX11_beats_13 ?_
        refine V_if_lt (tgt := 26) dX11_beats_15 rfl rw_ (fun b15 => ?_) (fun b15 => ?_)
        · exfalso; omega
        · refine V_il4 dX11_beats_18 ?_
          refine V_ldc_w (a := 99999) kc_X11_332 rfl dX11_beats_20 ?_
          refine V_icmp_le (tgt := 28) dX11_beats_23 rfl rw_ (by unfold ri; omega) (fun b23 => ?_) (fun b23 => ?_)
          · refine V_al0n dX11_beats_28 ?_
            refine V_getR kk0 (by decide) fl_X11_78 (fx_0_15 hρ) dX11_beats_29 ?_
            refine V_il1n dX11_beats_32 ?_
            refine V_i2l dX11_beats_33 (by first | assumption | (unfold ri at *; omega)) ?_
            refine V_putJ kk65 (by decide) fl_X11_128 rfl dX11_beats_34 ?_
            refine V_iconst dX11_beats_37 ?_
            refine V_is5 dX11_beats_38 (by decide) rfl ?_
            refine V_iconst dX11_beats_40 ?_
            refine V_is6 dX11_beats_41 (by decide) rfl ?_
            have hq := QW.g65 (T := T) (b := b) hG (x := sd) (n := ((0 : Nat) : Int)) (by omega)
            exact V_weak (by repeat (first | exact wk_n | refine wk_c (Or.inr rfl) ?_ | refine wk_c (Or.inl rfl) ?_)) (w_cbeats hW hs hsk hr h5 hm hp rw_ (fun f' g' a1 a2 => ⟨rfl, rfl, a2⟩) 0 (by omega) 0 sd f _ hC hq u2_s ea.symm)
          · exfalso; omega
  · have ea : aBeats T ra sk sd m p w = -1 := by
      unfold aBeats
      rw [if_neg (fun z => c ?_)]
      simp only [Bool.and_eq_true] at z
      obtain ⟨⟨⟨z1, z2⟩, z3⟩, z4⟩ := z
      exact ⟨by simpa using z1, by rw [z2, z3]; rfl, by unfold zin at z4; simpa using z4⟩
    rw [ea]
    refine V_il1n dX11_beats_0 ?_
    refine V_if_lt (tgt := 26) dX11_beats_1 rfl rsd (fun b1 => ?_) (fun b1 => ?_)
    · refine V_iconst dX11_beats_26 ?_
      exact V_ireturn rfl ⟨rfl, rfl, QW.rf hG (by omega)⟩ dX11_beats_27
    · refine V_al0n dX11_beats_4 ?_
      refine V_il2n dX11_beats_5 ?_
      refine V_il3n dX11_beats_6 ?_
      refine V_callV (as := [_, _]) ml_X11_203 im_X11_canRun se_X11_canRun kk0 (by decide) (by decide) dX11_beats_7 rfl rfl (by decide) (by decide) (Nat.le_of_ble_eq_true rfl) (by decide) (by decide) rfl (c_canRun hW hC rm rp) ?_
      refine pq4 ?_
      refine V_bt (tgt := 26) dX11_beats_10 rfl (fun b10 => ?_) (fun b10 => ?_)
      · refine V_iconst dX11_beats_26 ?_
        exact V_ireturn rfl ⟨rfl, rfl, QW.rf hG (by omega)⟩ dX11_beats_27
      · refine V_il4 dX11_beats_13 ?_
        refine V_if_lt (tgt := 26) dX11_beats_15 rfl rw_ (fun b15 => ?_) (fun b15 => ?_)
        · refine V_iconst dX11_beats_26 ?_
          exact V_ireturn rfl ⟨rfl, rfl, QW.rf hG (by omega)⟩ dX11_beats_27
        · refine V_il4 dX11_beats_18 ?_
          refine V_ldc_w (a := 99999) kc_X11_332 rfl dX11_beats_20 ?_
          refine V_icmp_le (tgt := 28) dX11_beats_23 rfl rw_ (by unfold ri; omega) (fun b23 => ?_) (fun b23 => ?_)
          · exact absurd ⟨by omega, b10, by omega⟩ c
          · refine V_iconst dX11_beats_26 ?_
            exact V_ireturn rfl ⟨rfl, rfl, QW.rf hG (by omega)⟩ dX11_beats_27
/-- one drawing -/
theorem w_cwin64 {Q : QT} {f0 : IT} {g0 : JT} (hW : TW T b ρ) {sk : Int} {ra : Bool} (hs : f0 0 5 = sk) (hsk : 0 ≤ sk ∧ sk ≤ 30) (hr : f0 0 6 = bz ra) (h5 : f0 55 5 < 999000) {p : Nat} (hp : p < nPl T) {so n5 m4 : Int} (hso : ri so) {i6 : Int} {N : Int} (hN : N ≤ 50) {v1 : Value} {R : Int × Int × Int}
    (hX : ∀ (f : IT) (g : JT) (Y : Int), CT T b f → QW T b (N + (nMe T : Int)) f0 g0 f g → g 65 14 = R.2.2 → ri R.1 → V_X11_wins Q 145 [.ref 0, v1, .int (iz so), .int (iz (p : Int)), .int (iz m4), .int (iz n5), .int (iz i6), .int (iz R.1), .null, .null, .null] [] ρ f g)
    (k : Nat) (hkl : k ≤ nMe T) (x : Int × Int × Int) {X2 : Int} (hx : (x.1 = -1 ∧ x.2.1 = 99999 ∧ X2 = 0) ∨ (0 ≤ x.1 ∧ x.1 ≤ 5 ∧ X2 = x.2.1 ∧ 0 ≤ x.2.1 ∧ x.2.1 ≤ 99998)) (f : IT) (g : JT) (hC : CT T b f) (hq : QW T b (N + (k : Int)) f0 g0 f g) (hd : g 65 14 = x.2.2) (hR : wink T ra sk p so (nMe T - k) k x = R) :
    V_X11_wins Q 64 [.ref 0, v1, .int (iz so), .int (iz (p : Int)), .int (iz m4), .int (iz n5), .int (iz i6), .int (iz x.1), .int (iz X2), .int (iz (k : Int)), .null] [] ρ f g := by
  have hk := hW.2.2.2.2.1
  have hρ := hW.1
  have hb := hW.2.1
  have h5m := hk.me
  have e13 : T 104 (12 + 1) = (nMe T : Int) := h5m.1
  have hq0 := hq
  obtain ⟨⟨fl0, ra0, hG⟩, hA, hAG⟩ := hq
  have rx1 : ri x.1 := by unfold ri; omega
  have rX2 : ri X2 := by unfold ri; omega
  by_cases e : k = nMe T
  · subst e
    rw [Nat.sub_self] at hR
    simp only [wink] at hR
    subst hR
    refine V_il9 dX11_wins_64 ?_
    refine V_al0n dX11_wins_66 ?_
    refine V_getR kk0 (by decide) fl_X11_29 hW.2.2.1 dX11_wins_67 ?_
    refine V_iconst dX11_wins_70 ?_
    refine V_callV (as := [_]) ml_X11_271 im_X7_size se_X7_size (kb_0 hb) (by decide) (kl_0 hb) dX11_wins_71 rfl rfl (by decide) (by decide) (Nat.le_of_ble_eq_true rfl) (by decide) (by decide) rfl (c_size hρ hb hC (i := 1) (by omega)) ?_
    refine pq4 ?_
    refine V_icmp_ge (tgt := 145) dX11_wins_74 rfl (by unfold ri; omega) (by unfold ri; omega) (fun b74 => ?_) (fun b74 => ?_)
    · exact V_weak (by repeat (first | exact wk_n | refine wk_c (Or.inr rfl) ?_ | refine wk_c (Or.inl rfl) ?_)) (hX f g 0 hC hq0 hd rx1)
    · exfalso; omega
  · rw [show nMe T - k = (nMe T - (k + 1)) + 1 by omega, wink] at hR
    have hten := tenR_ri hk (ra := ra) hsk (m := k) (p := p) (by omega) hp x.2.2
    have hdr := c_drawRace (g := g) (m := k) (d := x.2.2) hW hC hG (by have := hAG.2; omega) (by omega) hp ((hA.1 0 5 (by omega) (by omega)).trans hs) hsk ((hA.1 0 6 (by omega) (by omega)).trans hr) hd
    have hbit : so / 2 ^ k % 2 = 0 ∨ so / 2 ^ k % 2 = 1 := by omega
    have nx : ∀ (x' : Int × Int × Int) (X2' : Int), ((x'.1 = -1 ∧ x'.2.1 = 99999 ∧ X2' = 0) ∨ (0 ≤ x'.1 ∧ x'.1 ≤ 5 ∧ X2' = x'.2.1 ∧ 0 ≤ x'.2.1 ∧ x'.2.1 ≤ 99998)) → ∀ (f' : IT) (g' : JT), CT T b f' → QW T b (N + (((k + 1 : Nat)) : Int)) f0 g0 f' g' → g' 65 14 = x'.2.2 → wink T ra sk p so (nMe T - (k + 1)) (k + 1) x' = R → V_X11_wins Q 64 [.ref 0, v1, .int (iz so), .int (iz (p : Int)), .int (iz m4), .int (iz n5), .int (iz i6), .int (iz x'.1), .int (iz X2'), .int (iz ((k : Int) + 1)), .null] [] ρ f' g' := fun x' X2' a1 f' g' a2 a3 a4 a5 => w_cwin64 hW hs hsk hr h5 hp hso hN hX (k + 1) (by omega) x' a1 f' g' a2 a3 a4 a5
    refine V_il9 dX11_wins_64 ?_
    refine V_al0n dX11_wins_66 ?_
    refine V_getR kk0 (by decide) fl_X11_29 hW.2.2.1 dX11_wins_67 ?_
    refine V_iconst dX11_wins_70 ?_
    refine V_callV (as := [_]) ml_X11_271 im_X7_size se_X7_size (kb_0 hb) (by decide) (kl_0 hb) dX11_wins_71 rfl rfl (by decide) (by decide) (Nat.le_of_ble_eq_true rfl) (by decide) (by decide) rfl (c_size hρ hb hC (i := 1) (by omega)) ?_
    refine pq4 ?_
    refine V_icmp_ge (tgt := 145) dX11_wins_74 rfl (by unfold ri; omega) (by unfold ri; omega) (fun b74 => ?_) (fun b74 => ?_)
    · exfalso; omega
    · refine V_il2n dX11_wins_77 ?_
      refine V_il9 dX11_wins_78 ?_
      refine V_ishr dX11_wins_80 (iz_shr hso (by omega)) ?_
      refine V_iconst dX11_wins_81 ?_
      refine V_iand dX11_wins_82 (iz_and1 _) ?_
      refine V_if_eq (tgt := 100) dX11_wins_83 rfl (by unfold ri; omega) (fun b83 => ?_) (fun b83 => ?_)
      · refine V_iconst dX11_wins_100 ?_
        refine V_is10 dX11_wins_101 (by decide) rfl ?_
        refine V_il10 dX11_wins_103 ?_
        refine V_if_eq (tgt := 139) dX11_wins_105 rfl (by unfold ri; decide) (fun b105 => ?_) (fun b105 => by exfalso; revert b105; decide)
        refine V_inc9 dX11_wins_139 (by decide) rfl ?_
        refine V_goto (tgt := 64) dX11_wins_142 rfl ?_
        rw [if_neg (by omega)] at hR; exact V_weak (by repeat (first | exact wk_n | refine wk_c (Or.inr rfl) ?_ | refine wk_c (Or.inl rfl) ?_)) (nx x X2 hx f g hC ⟨⟨fl0, ra0, hG⟩, hA, hAG.wk (by omega)⟩ hd hR)
      · refine V_al0n dX11_wins_86 ?_
        refine V_il9 dX11_wins_87 ?_
        refine V_il3n dX11_wins_89 ?_
        refine V_callV (as := [_, _]) ml_X11_351 im_X11_drawRace se_X11_drawRace kk0 (by decide) (by decide) dX11_wins_90 rfl rfl (by decide) (by decide) (Nat.le_of_ble_eq_true rfl) (by decide) (by decide) rfl (hdr) ?_
        rintro r90 ρ90 f90 g90 ⟨rfl, s90_0, q1, q2, q3, q4, q5, q6, q7, q8⟩
        obtain rfl := s90_0.symm
        have hq2 : QW T b (N + (((k + 1 : Nat)) : Int)) f0 g0 f90 g90 := ⟨q2, hA.tr q3, (hAG.tr q4).wk (by omega)⟩
        refine V_bt (tgt := 100) dX11_wins_93 rfl (fun b93 => ?_) (fun b93 => ?_)
        · refine V_iconst dX11_wins_100 ?_
          refine V_is10 dX11_wins_101 (by decide) rfl ?_
          refine V_il10 dX11_wins_103 ?_
          refine V_if_eq (tgt := 139) dX11_wins_105 rfl (by unfold ri; decide) (fun b105 => ?_) (fun b105 => by exfalso; revert b105; decide)
          refine V_inc9 dX11_wins_139 (by decide) rfl ?_
          refine V_goto (tgt := 64) dX11_wins_142 rfl ?_
          rw [if_pos (by omega), if_neg (by simp at b93; omega)] at hR; exact V_weak (by repeat (first | exact wk_n | refine wk_c (Or.inr rfl) ?_ | refine wk_c (Or.inl rfl) ?_)) (nx (x.1, x.2.1, (rcS T ra sk k p x.2.2).2) X2 hx f90 g90 q1 hq2 q8 hR)
        · refine V_iconst dX11_wins_96 ?_
          refine V_goto (tgt := 101) dX11_wins_97 rfl ?_
          refine V_is10 dX11_wins_101 (by decide) rfl ?_
          refine V_il10 dX11_wins_103 ?_
          refine V_if_eq (tgt := 139) dX11_wins_105 rfl (by unfold ri; decide) (fun b105 => by exfalso; revert b105; decide) (fun b105 => ?_)
          refine V_il7 dX11_wins_108 ?_
          refine V_iconst dX11_wins_110 ?_
          refine V_icmp_eq (tgt := 126) dX11_wins_111 rfl rx1 (by unfold ri; omega) (fun b111 => ?_) (fun b111 => ?_)
          · refine V_il9 dX11_wins_126 ?_
            refine V_is7 dX11_wins_128 (by decide) rfl ?_
            refine V_al0n dX11_wins_130 ?_
            refine V_getR kk0 (by decide) fl_X11_78 (fx_0_15 hρ) dX11_wins_131 ?_
            refine V_getI kk65 (by decide) fl_X11_241 rfl dX11_wins_134 ?_
            refine V_is8 dX11_wins_137 (by decide) rfl ?_
            refine V_inc9 dX11_wins_139 (by decide) rfl ?_
            refine V_goto (tgt := 64) dX11_wins_142 rfl ?_
            (have e7 := q7 (by simpa using b93)); (have e8 : tenR (rcS T ra sk k p x.2.2) ≠ 99999 := (by simpa using b93)); rw [if_pos (by omega), if_pos (by omega)] at hR; exact V_weak (by repeat (first | exact wk_n | refine wk_c (Or.inr rfl) ?_ | refine wk_c (Or.inl rfl) ?_)) (nx ((k : Int), tenR (rcS T ra sk k p x.2.2), (rcS T ra sk k p x.2.2).2) _ (Or.inr ⟨by simp only; omega, by simp only; omega, e7, by simp only; omega, by simp only; omega⟩) f90 g90 q1 hq2 q8 hR)
          · refine V_al0n dX11_wins_114 ?_
            refine V_getR kk0 (by decide) fl_X11_78 (fx_0_15 hρ) dX11_wins_115 ?_
            refine V_getI kk65 (by decide) fl_X11_241 rfl dX11_wins_118 ?_
            refine V_il8 dX11_wins_121 ?_
            refine V_icmp_ge (tgt := 139) dX11_wins_123 rfl (by unfold ri; omega) rX2 (fun b123 => ?_) (fun b123 => ?_)
            · refine V_inc9 dX11_wins_139 (by decide) rfl ?_
              refine V_goto (tgt := 64) dX11_wins_142 rfl ?_
              (have e7 := q7 (by simpa using b93)); rw [if_pos (by omega), if_neg (by omega)] at hR; exact V_weak (by repeat (first | exact wk_n | refine wk_c (Or.inr rfl) ?_ | refine wk_c (Or.inl rfl) ?_)) (nx (x.1, x.2.1, (rcS T ra sk k p x.2.2).2) X2 hx f90 g90 q1 hq2 q8 hR)
            · refine V_il9 dX11_wins_126 ?_
              refine V_is7 dX11_wins_128 (by decide) rfl ?_
              refine V_al0n dX11_wins_130 ?_
              refine V_getR kk0 (by decide) fl_X11_78 (fx_0_15 hρ) dX11_wins_131 ?_
              refine V_getI kk65 (by decide) fl_X11_241 rfl dX11_wins_134 ?_
              refine V_is8 dX11_wins_137 (by decide) rfl ?_
              refine V_inc9 dX11_wins_139 (by decide) rfl ?_
              refine V_goto (tgt := 64) dX11_wins_142 rfl ?_
              (have e7 := q7 (by simpa using b93)); (have e8 : tenR (rcS T ra sk k p x.2.2) ≠ 99999 := (by simpa using b93)); rw [if_pos (by omega), if_pos (by omega)] at hR; exact V_weak (by repeat (first | exact wk_n | refine wk_c (Or.inr rfl) ?_ | refine wk_c (Or.inl rfl) ?_)) (nx ((k : Int), tenR (rcS T ra sk k p x.2.2), (rcS T ra sk k p x.2.2).2) _ (Or.inr ⟨by simp only; omega, by simp only; omega, e7, by simp only; omega, by simp only; omega⟩) f90 g90 q1 hq2 q8 hR)
termination_by nMe T - k
theorem w_cwins {Q : QT} {f0 : IT} {g0 : JT} (hW : TW T b ρ) {sk : Int} {ra : Bool} (hs : f0 0 5 = sk) (hsk : 0 ≤ sk ∧ sk ≤ 30) (hr : f0 0 6 = bz ra) (h5 : f0 55 5 < 999000) {p : Nat} (hp : p < nPl T) {so m R : Int} (hso : ri so) (hm : ri m) {v1 : Value}
    (hQ : ∀ (f : IT) (g : JT), CT T b f → QW T b 60 f0 g0 f g → Q (some (.int (iz R))) ρ f g)
    (i : Nat) (hi : i ≤ 10) (n d : Int) (f : IT) (g : JT) (hC : CT T b f) (hq : QW T b ((i * nMe T : Nat) : Int) f0 g0 f g) (hd : g 65 14 = d) (hR : (winR T ra sk p so m (10 - i) (n, d)).1 = R) :
    V_X11_wins Q 48 [.ref 0, v1, .int (iz so), .int (iz (p : Int)), .int (iz m), .int (iz n), .int (iz (i : Int)), .null, .null, .null, .null] [] ρ f g := by
  have hk := hW.2.2.2.2.1
  have h5m := hk.me
  have hb5 : i * nMe T ≤ i * 5 := Nat.mul_le_mul_left i h5m.2
  by_cases e : i = 10
  · subst e
    simp only [Nat.sub_self, winR] at hR
    subst hR
    refine V_il6 dX11_wins_48 ?_
    refine V_bipush dX11_wins_50 rfl ?_
    refine V_icmp_ge (tgt := 168) dX11_wins_52 rfl (by unfold ri; omega) (by unfold ri; omega) (fun b52 => ?_) (fun b52 => ?_)
    · refine V_il5 dX11_wins_168 ?_
      exact V_ireturn rfl (hQ f g hC ⟨hq.1, hq.2.1, hq.2.2.wk (by omega)⟩) dX11_wins_170
    · exfalso; omega
  · rw [show 10 - i = (10 - (i + 1)) + 1 by omega, winR] at hR
    have hin := w_cwin64 (Q := Q) (f0 := f0) (g0 := g0) (v1 := v1) (n5 := n) (m4 := m) (i6 := (i : Int)) (N := ((i * nMe T : Nat) : Int)) hW hs hsk hr h5 hp hso (by omega) (R := wink T ra sk p so (nMe T) 0 (-1, 99999, d)) (by
      intro f1 g1 Y z1 z2 z3 z4
      have z2' : QW T b (((i + 1) * nMe T : Nat) : Int) f0 g0 f1 g1 := ⟨z2.1, z2.2.1, z2.2.2.wk (by rw [Nat.add_mul, Nat.one_mul]; omega)⟩
      refine V_il5 dX11_wins_145 ?_
      refine V_il7 dX11_wins_147 ?_
      refine V_il4 dX11_wins_149 ?_
      refine V_icmp_ne (tgt := 158) dX11_wins_151 rfl z4 hm (fun b151 => ?_) (fun b151 => ?_)
      · refine V_iconst dX11_wins_158 ?_
        refine V_iadd dX11_wins_159 ?_
        refine V_is5 dX11_wins_160 (by decide) rfl ?_
        refine V_inc6 dX11_wins_162 (by decide) rfl ?_
        refine V_goto (tgt := 48) dX11_wins_165 rfl ?_
        exact V_weak (by repeat (first | exact wk_n | refine wk_c (Or.inr rfl) ?_ | refine wk_c (Or.inl rfl) ?_)) (w_cwins hW hs hsk hr h5 hp hso hm hQ (i + 1) (by omega) _ _ f1 g1 z1 z2' z3 (by rw [← hR]; simp [b151, bz]))
      · refine V_iconst dX11_wins_154 ?_
        refine V_goto (tgt := 159) dX11_wins_155 rfl ?_
        refine V_iadd dX11_wins_159 ?_
        refine V_is5 dX11_wins_160 (by decide) rfl ?_
        refine V_inc6 dX11_wins_162 (by decide) rfl ?_
        refine V_goto (tgt := 48) dX11_wins_165 rfl ?_
        exact V_weak (by repeat (first | exact wk_n | refine wk_c (Or.inr rfl) ?_ | refine wk_c (Or.inl rfl) ?_)) (w_cwins hW hs hsk hr h5 hp hso hm hQ (i + 1) (by omega) _ _ f1 g1 z1 z2' z3 (by rw [← hR]; simp [b151, bz]))
      ) 0 (by omega) (-1, 99999, d) (X2 := 0) (Or.inl ⟨rfl, rfl, rfl⟩) f g hC ⟨hq.1, hq.2.1, hq.2.2.wk (by omega)⟩ hd rfl
    refine V_il6 dX11_wins_48 ?_
    refine V_bipush dX11_wins_50 rfl ?_
    refine V_icmp_ge (tgt := 168) dX11_wins_52 rfl (by unfold ri; omega) (by unfold ri; omega) (fun b52 => ?_) (fun b52 => ?_)
    · exfalso; omega
    · refine V_iconst dX11_wins_55 ?_
      refine V_is7 dX11_wins_56 (by decide) rfl ?_
      refine V_iconst dX11_wins_58 ?_
      refine V_is8 dX11_wins_59 (by decide) rfl ?_
      refine V_iconst dX11_wins_61 ?_
      refine V_is9 dX11_wins_62 (by decide) rfl ?_
      exact hin
termination_by 10 - i
theorem areM_iff {so : Int} : (areM T so && decide (so ≠ 0)) = decide (0 < so ∧ so < 2 ^ nMe T) := by
  have hp : (0 : Int) < 2 ^ nMe T := Int.pow_pos (by decide)
  unfold areM
  rw [Bool.eq_iff_iff]
  simp only [Bool.and_eq_true, decide_eq_true_eq]
  constructor
  · intro h
    refine ⟨by omega, ?_⟩
    have := Int.emod_lt_of_pos so hp
    have h2 := Int.mul_ediv_add_emod so (2 ^ nMe T)
    rw [h.1.2] at h2
    simp at h2
    omega
  · intro h
    exact ⟨⟨by omega, Int.ediv_eq_zero_of_lt (by omega) h.2⟩, by omega⟩
theorem c_wins (hW : TW T b ρ) (hC : CT T b f) {fl0 ra0 : Bool} (hG : GI T fl0 ra0 f g) (h5 : f 55 5 < 999000) {sk : Int} {ra : Bool} (hs : f 0 5 = sk) (hsk : 0 ≤ sk ∧ sk ≤ 30) (hr : f 0 6 = bz ra) {sd so p m : Int} (rsd : ri sd) (rso : ri so) (rp : ri p) (rm : ri m) :
    C_X11_wins [.ref 0, .int (iz sd), .int (iz so), .int (iz p), .int (iz m)] ρ f g (fun r ρ' f' g' => r = some (.int (iz (aWins T ra sk sd so p m))) ∧ ρ' = ρ ∧ QW T b 60 f g f' g') := by
  have hk := hW.2.2.2.2.1
  have hρ := hW.1
  have hb := hW.2.1
  have h5m := hk.me
  refine Ct.ofV (by decide) rfl (Nat.le_of_ble_eq_true rfl) ?_
  by_cases c : 0 ≤ sd ∧ decide (0 < so ∧ so < 2 ^ nMe T) = true ∧ (okM T m && okP T p) = true
  · obtain ⟨c0_, c4, c1⟩ := c
    have c2 := c1
    rw [Bool.and_eq_true] at c2
    obtain ⟨mN, rfl, hm⟩ := okM_at c2.1
    obtain ⟨pN, rfl, hp⟩ := okP_at c2.2
    have c5 := c4
    rw [← areM_iff, Bool.and_eq_true] at c5
    have hbit : so / 2 ^ mN % 2 = 0 ∨ so / 2 ^ mN % 2 = 1 := by omega
    by_cases c6 : so / 2 ^ mN % 2 = 1
    · have ea : aWins T ra sk sd so (pN : Int) (mN : Int) = (winR T ra sk pN so mN 10 (0, sd)).1 := by
        unfold aWins
        rw [show decide (0 ≤ sd) = true by simpa using c0_, Bool.true_and, c5.1, c2.1, c2.2, Int.toNat_natCast, show decide (so / 2 ^ mN % 2 = 1) = true by simpa using c6]
        rfl
      refine V_il1n dX11_wins_0 ?_
      refine V_if_lt (tgt := 31) dX11_wins_1 rfl rsd (fun b1 => ?_) (fun b1 => ?_)
      · exfalso; omega
      · refine V_al0n dX11_wins_4 ?_
        refine V_il2n dX11_wins_5 ?_
        refine V_callV (as := [_]) ml_X11_348 im_X11_areMen se_X11_areMen kk0 (by decide) (by decide) dX11_wins_6 rfl rfl (by decide) (by decide) (Nat.le_of_ble_eq_true rfl) (by decide) (by decide) rfl (c_areMen hW hC rso) ?_
        refine pq4 ?_
        refine V_bt (tgt := 31) dX11_wins_9 rfl (fun b9 => ?_) (fun b9 => ?_)
        · rw [c4] at b9; cases b9
        · refine V_al0n dX11_wins_12 ?_
          refine V_il4 dX11_wins_13 ?_
          refine V_il3n dX11_wins_15 ?_
          refine V_callV (as := [_, _]) ml_X11_203 im_X11_canRun se_X11_canRun kk0 (by decide) (by decide) dX11_wins_16 rfl rfl (by decide) (by decide) (Nat.le_of_ble_eq_true rfl) (by decide) (by decide) rfl (c_canRun hW hC rm rp) ?_
          refine pq4 ?_
          refine V_bt (tgt := 31) dX11_wins_19 rfl (fun b19 => ?_) (fun b19 => ?_)
          · rw [c1] at b19; cases b19
          · refine V_il2n dX11_wins_22 ?_
            refine V_il4 dX11_wins_23 ?_
            refine V_ishr dX11_wins_25 (iz_shr rso (by omega)) ?_
            refine V_iconst dX11_wins_26 ?_
            refine V_iand dX11_wins_27 (iz_and1 _) ?_
            refine V_if_ne (tgt := 33) dX11_wins_28 rfl (by unfold ri; omega) (fun b28 => ?_) (fun b28 => ?_)
            · refine V_al0n dX11_wins_33 ?_
              refine V_getR kk0 (by decide) fl_X11_78 (fx_0_15 hρ) dX11_wins_34 ?_
              refine V_il1n dX11_wins_37 ?_
              refine V_i2l dX11_wins_38 (by first | assumption | (unfold ri at *; omega)) ?_
              refine V_putJ kk65 (by decide) fl_X11_128 rfl dX11_wins_39 ?_
              refine V_iconst dX11_wins_42 ?_
              refine V_is5 dX11_wins_43 (by decide) rfl ?_
              refine V_iconst dX11_wins_45 ?_
              refine V_is6 dX11_wins_46 (by decide) rfl ?_
              have hq := QW.g65 (T := T) (b := b) hG (x := sd) (n := ((0 * nMe T : Nat) : Int)) (by omega)
              exact V_weak (by repeat (first | exact wk_n | refine wk_c (Or.inr rfl) ?_ | refine wk_c (Or.inl rfl) ?_)) (w_cwins hW hs hsk hr h5 hp rso rm (fun f' g' a1 a2 => ⟨rfl, rfl, a2⟩) 0 (by omega) 0 sd f _ hC hq u2_s ea.symm)
            · exfalso; omega
    · have ea : aWins T ra sk sd so (pN : Int) (mN : Int) = -1 := by
        unfold aWins
        rw [Int.toNat_natCast, show decide (so / 2 ^ mN % 2 = 1) = false by simpa using c6, Bool.and_false]
        rfl
      rw [ea]
      refine V_il1n dX11_wins_0 ?_
      refine V_if_lt (tgt := 31) dX11_wins_1 rfl rsd (fun b1 => ?_) (fun b1 => ?_)
      · refine V_iconst dX11_wins_31 ?_
        exact V_ireturn rfl ⟨rfl, rfl, QW.rf hG (by omega)⟩ dX11_wins_32
      · refine V_al0n dX11_wins_4 ?_
        refine V_il2n dX11_wins_5 ?_
        refine V_callV (as := [_]) ml_X11_348 im_X11_areMen se_X11_areMen kk0 (by decide) (by decide) dX11_wins_6 rfl rfl (by decide) (by decide) (Nat.le_of_ble_eq_true rfl) (by decide) (by decide) rfl (c_areMen hW hC rso) ?_
        refine pq4 ?_
        refine V_bt (tgt := 31) dX11_wins_9 rfl (fun b9 => ?_) (fun b9 => ?_)
        · refine V_iconst dX11_wins_31 ?_
          exact V_ireturn rfl ⟨rfl, rfl, QW.rf hG (by omega)⟩ dX11_wins_32
        · refine V_al0n dX11_wins_12 ?_
          refine V_il4 dX11_wins_13 ?_
          refine V_il3n dX11_wins_15 ?_
          refine V_callV (as := [_, _]) ml_X11_203 im_X11_canRun se_X11_canRun kk0 (by decide) (by decide) dX11_wins_16 rfl rfl (by decide) (by decide) (Nat.le_of_ble_eq_true rfl) (by decide) (by decide) rfl (c_canRun hW hC rm rp) ?_
          refine pq4 ?_
          refine V_bt (tgt := 31) dX11_wins_19 rfl (fun b19 => ?_) (fun b19 => ?_)
          · refine V_iconst dX11_wins_31 ?_
            exact V_ireturn rfl ⟨rfl, rfl, QW.rf hG (by omega)⟩ dX11_wins_32
          · refine V_il2n dX11_wins_22 ?_
            refine V_il4 dX11_wins_23 ?_
            refine V_ishr dX11_wins_25 (iz_shr rso (by omega)) ?_
            refine V_iconst dX11_wins_26 ?_
            refine V_iand dX11_wins_27 (iz_and1 _) ?_
            refine V_if_ne (tgt := 33) dX11_wins_28 rfl (by unfold ri; omega) (fun b28 => ?_) (fun b28 => ?_)
            · exfalso; omega
            · refine V_iconst dX11_wins_31 ?_
              exact V_ireturn rfl ⟨rfl, rfl, QW.rf hG (by omega)⟩ dX11_wins_32
  · have ea : (∀ mN : Nat, m = mN → so / 2 ^ mN % 2 = 1 → so ≠ 0) → aWins T ra sk sd so p m = -1 := fun hne => by
      unfold aWins
      rw [if_neg (fun z => c ?_)]
      simp only [Bool.and_eq_true] at z
      obtain ⟨⟨⟨⟨z1, z2⟩, z3⟩, z4⟩, z5⟩ := z
      refine ⟨by simpa using z1, ?_, by rw [z4, z3]; rfl⟩
      obtain ⟨mN, rfl, hm⟩ := okM_at z4
      rw [Int.toNat_natCast] at z5
      rw [← areM_iff, z2, Bool.true_and]
      simpa using hne mN rfl (by simpa using z5)
    rw [ea (fun mN _ h1 h2 => by rw [h2] at h1; simp at h1)]
    refine V_il1n dX11_wins_0 ?_
    refine V_if_lt (tgt := 31) dX11_wins_1 rfl rsd (fun b1 => ?_) (fun b1 => ?_)
    · refine V_iconst dX11_wins_31 ?_
      exact V_ireturn rfl ⟨rfl, rfl, QW.rf hG (by omega)⟩ dX11_wins_32
    · refine V_al0n dX11_wins_4 ?_
      refine V_il2n dX11_wins_5 ?_
      refine V_callV (as := [_]) ml_X11_348 im_X11_areMen se_X11_areMen kk0 (by decide) (by decide) dX11_wins_6 rfl rfl (by decide) (by decide) (Nat.le_of_ble_eq_true rfl) (by decide) (by decide) rfl (c_areMen hW hC rso) ?_
      refine pq4 ?_
      refine V_bt (tgt := 31) dX11_wins_9 rfl (fun b9 => ?_) (fun b9 => ?_)
      · refine V_iconst dX11_wins_31 ?_
        exact V_ireturn rfl ⟨rfl, rfl, QW.rf hG (by omega)⟩ dX11_wins_32
      · refine V_al0n dX11_wins_12 ?_
        refine V_il4 dX11_wins_13 ?_
        refine V_il3n dX11_wins_15 ?_
        refine V_callV (as := [_, _]) ml_X11_203 im_X11_canRun se_X11_canRun kk0 (by decide) (by decide) dX11_wins_16 rfl rfl (by decide) (by decide) (Nat.le_of_ble_eq_true rfl) (by decide) (by decide) rfl (c_canRun hW hC rm rp) ?_
        refine pq4 ?_
        refine V_bt (tgt := 31) dX11_wins_19 rfl (fun b19 => ?_) (fun b19 => ?_)
        · refine V_iconst dX11_wins_31 ?_
          exact V_ireturn rfl ⟨rfl, rfl, QW.rf hG (by omega)⟩ dX11_wins_32
        · exact absurd ⟨by omega, b9, b19⟩ c
end CBEATS

