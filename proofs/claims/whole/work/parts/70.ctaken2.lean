/-- the names as they are given -/
def GV (b : Nat) (nm : Nat → Int) (g g' : JT) : Prop := (∀ n, n < 8 → g' (b + 23) n = nm n) ∧ ∀ a, a ≠ b + 23 → g' a = g a
section GIVE
variable {T : TT} {b : Nat} {ρ : RT} {f : IT} {g : JT}
theorem c_give (hρ : Fx ρ) (hr : ρ 55 0 = some b) (hb : b = 5 ∨ b = 30) (hk : TOK T) {fl ra : Bool} (hG : GI T fl ra f g) {k : Nat} (hl : k < nLa T) {pa wi le : Int} (rp : ri pa) (rw_ : ri wi) (rl_ : ri le) :
    C_X0_give [.ref 55, .int (iz (k : Int)), .int (iz pa), .int (iz wi), .int (iz le)] ρ f g (fun r ρ' f' g' => r = none ∧ ρ' = ρ ∧ f' = f ∧ GV b (nms T k fl ra (f 55 2) (f 55 1) wi le pa) g g') := by
  have h6 := hk.la
  obtain ⟨g4, g3, g1, g2, g5, gR, gC⟩ := hG
  obtain ⟨-, e57, e58, e59⟩ := gR k (by omega)
  have hr0 := tat0_rng hk (i := (k : Int))
  have t1 := tat0 hk (j := 1) hl (by omega)
  have t2 := tat0 hk (j := 2) hl (by omega)
  have t3 := tat0 hk (j := 3) hl (by omega)
  have hln := hk.lane hl
  simp [tcl] at t1 t2 t3
  have r57 : ri (f 57 k) := by rw [e57]; unfold ri; split <;> omega
  have r58 : ri (f 58 k) := by rw [e58]; unfold ri; split <;> omega
  have r59 : ri (f 59 k) := by rw [e59]; unfold ri; omega
  refine Ct.ofV (by decide) rfl (Nat.le_of_ble_eq_true rfl) ?_
  refine V_il1n dX0_give_0 ?_
  refine V_if_lt (tgt := 10) dX0_give_1 rfl (by first | assumption | (unfold ri at *; omega)) (fun b1 => ?_) (fun b1 => ?_)
  · exfalso; omega
  · refine V_il1n dX0_give_4 ?_
    refine V_bipush dX0_give_5 rfl ?_
    refine V_icmp_lt (tgt := 11) dX0_give_7 rfl (by first | assumption | (unfold ri at *; omega)) (by first | assumption | (unfold ri at *; omega)) (fun b7 => ?_) (fun b7 => ?_)
    · refine V_al0n dX0_give_11 ?_
      refine V_getR kk55 (by decide) fl_X0_48 hr dX0_give_12 ?_
      refine V_getR (kb_0 hb) (kl_0 hb) fl_X0_55 (fb_0_1 hρ hb) dX0_give_15 ?_
      refine V_getR (kb_17 hb) (kl_17 hb) fl_X0_71 (fb_17_6 hρ hb) dX0_give_18 ?_
      refine V_as5 dX0_give_21 (by decide) rfl ?_
      refine V_al5 dX0_give_23 ?_
      refine V_iconst dX0_give_25 ?_
      refine V_il2n dX0_give_26 ?_
      refine V_i2l dX0_give_27 (by first | assumption | (unfold ri at *; omega)) ?_
      refine V_last (k := 0) (kb_23 hb) (kl_23 hb) (by first | rfl | omega) (by omega) (by first | decide | assumption | omega) dX0_give_28 ?_
      refine V_al5 dX0_give_29 ?_
      refine V_iconst dX0_give_31 ?_
      refine V_al0n dX0_give_32 ?_
      refine V_getR kk55 (by decide) fl_X0_32 (fx_55_7 hρ) dX0_give_33 ?_
      refine V_il1n dX0_give_36 ?_
      refine V_iald (k := k) kk57 (by decide) (by first | rfl | omega) (by omega) (by first | decide | assumption | omega) rfl dX0_give_37 ?_
      refine V_i2l dX0_give_38 r57 ?_
      refine V_last (k := 1) (kb_23 hb) (kl_23 hb) (by first | rfl | omega) (by omega) (by first | decide | assumption | omega) dX0_give_39 ?_
      refine V_al5 dX0_give_40 ?_
      refine V_iconst dX0_give_42 ?_
      refine V_al0n dX0_give_43 ?_
      refine V_getI kk55 (by decide) fl_X0_15 rfl dX0_give_44 ?_
      refine V_i2l dX0_give_47 (by first | assumption | (unfold ri at *; omega)) ?_
      refine V_last (k := 2) (kb_23 hb) (kl_23 hb) (by first | rfl | omega) (by omega) (by first | decide | assumption | omega) dX0_give_48 ?_
      refine V_al5 dX0_give_49 ?_
      refine V_iconst dX0_give_51 ?_
      refine V_al0n dX0_give_52 ?_
      refine V_getI kk55 (by decide) fl_X0_9 rfl dX0_give_53 ?_
      refine V_i2l dX0_give_56 (by first | assumption | (unfold ri at *; omega)) ?_
      refine V_last (k := 3) (kb_23 hb) (kl_23 hb) (by first | rfl | omega) (by omega) (by first | decide | assumption | omega) dX0_give_57 ?_
      refine V_al5 dX0_give_58 ?_
      refine V_iconst dX0_give_60 ?_
      refine V_il3n dX0_give_61 ?_
      refine V_i2l dX0_give_62 (by first | assumption | (unfold ri at *; omega)) ?_
      refine V_last (k := 4) (kb_23 hb) (kl_23 hb) (by first | rfl | omega) (by omega) (by first | decide | assumption | omega) dX0_give_63 ?_
      refine V_al5 dX0_give_64 ?_
      refine V_iconst dX0_give_66 ?_
      refine V_il4 dX0_give_67 ?_
      refine V_i2l dX0_give_69 (by first | assumption | (unfold ri at *; omega)) ?_
      refine V_last (k := 5) (kb_23 hb) (kl_23 hb) (by first | rfl | omega) (by omega) (by first | decide | assumption | omega) dX0_give_70 ?_
      refine V_al5 dX0_give_71 ?_
      refine V_bipush dX0_give_73 rfl ?_
      refine V_al0n dX0_give_75 ?_
      refine V_getR kk55 (by decide) fl_X0_35 (fx_55_8 hρ) dX0_give_76 ?_
      refine V_il1n dX0_give_79 ?_
      refine V_iald (k := k) kk58 (by decide) (by first | rfl | omega) (by omega) (by first | decide | assumption | omega) rfl dX0_give_80 ?_
      refine V_i2l dX0_give_81 r58 ?_
      refine V_last (k := 6) (kb_23 hb) (kl_23 hb) (by first | rfl | omega) (by omega) (by first | decide | assumption | omega) dX0_give_82 ?_
      refine V_al5 dX0_give_83 ?_
      refine V_bipush dX0_give_85 rfl ?_
      refine V_al0n dX0_give_87 ?_
      refine V_getR kk55 (by decide) fl_X0_38 (fx_55_9 hρ) dX0_give_88 ?_
      refine V_il1n dX0_give_91 ?_
      refine V_iald (k := k) kk59 (by decide) (by first | rfl | omega) (by omega) (by first | decide | assumption | omega) rfl dX0_give_92 ?_
      refine V_i2l dX0_give_93 r59 ?_
      refine V_last (k := 7) (kb_23 hb) (kl_23 hb) (by first | rfl | omega) (by omega) (by first | decide | assumption | omega) dX0_give_94 ?_
      exact V_return rfl ⟨rfl, rfl, rfl, fun n hn => by
  rcases (show n = 0 ∨ n = 1 ∨ n = 2 ∨ n = 3 ∨ n = 4 ∨ n = 5 ∨ n = 6 ∨ n = 7 by omega) with rfl | rfl | rfl | rfl | rfl | rfl | rfl | rfl
  · simp [u2, nms]
  · simp [u2, nms]; rw [e57, t1]
  · simp [u2, nms]
  · simp [u2, nms]
  · simp [u2, nms]
  · simp [u2, nms]
  · simp [u2, nms]; rw [e58, t3]; rcases hln.2.2.2 with q | q <;> cases ra <;> simp [q, bz]
  · simp [u2, nms]; rw [e59, t2]; rcases hln.2.2.1 with q | q <;> simp [q, bz], fun a ha => by funext j; rw [u2_o (by omega), u2_o (by omega), u2_o (by omega), u2_o (by omega), u2_o (by omega), u2_o (by omega), u2_o (by omega), u2_o (by omega)]⟩ dX0_give_95
    · exfalso; omega
theorem g_rng (hk : TOK T) {fl ra : Bool} {sk wt : Int} {k : Nat} (hl : k < nLa T) {pa wi le : Int} (hp : 1 ≤ pa ∧ pa ≤ 9) : (1 ≤ gTi T fl ra sk wt k pa wi le ∧ gTi T fl ra sk wt k pa wi le ≤ 99) ∧ (-20 ≤ gCo T fl ra sk wt k pa wi le ∧ gCo T fl ra sk wt k pa wi le ≤ 20) ∧ (0 ≤ gAc T fl ra sk wt k pa wi le ∧ gAc T fl ra sk wt k pa wi le ≤ 20) := by
  have hln := hk.lane hl
  exact ⟨bl_rng (by omega) (by omega), bl_rng (by omega) (by split <;> omega), bl_rng (by omega) (by omega)⟩
theorem pk_or {t c a : Int} (ht : 1 ≤ t ∧ t ≤ 99) (hc : -20 ≤ c ∧ c ≤ 20) (ha : 0 ≤ a ∧ a ≤ 20) : iz t ||| iz ((c + 20) * 128) = iz (t + (c + 20) * 128) ∧ iz (t + (c + 20) * 128) ||| iz (a * 8192) = iz (PKd t c a) := by
  obtain ⟨tN, rfl⟩ : ∃ n : Nat, t = n := ⟨t.toNat, by omega⟩
  obtain ⟨cN, hcN⟩ : ∃ n : Nat, c + 20 = n := ⟨(c + 20).toNat, by omega⟩
  obtain ⟨aN, rfl⟩ : ∃ n : Nat, a = n := ⟨a.toNat, by omega⟩
  unfold PKd
  rw [hcN]
  have h1 := iz_orS (a := tN) (b := cN) (k := 7) (by omega) (by omega)
  have h2 := iz_orS (a := tN + cN * 128) (b := aN) (k := 13) (by omega) (by omega)
  refine ⟨h1, ?_⟩
  have e : (((tN + cN * 128 : Nat)) : Int) = (tN : Int) + (cN : Int) * 128 := by omega
  rw [e] at h2
  exact h2
/-- what taken leaves: the same but for what is kept -/
def TKf (b : Nat) (f : IT) (g : JT) (f' : IT) (g' : JT) : Prop := (∀ a k, a ≠ 61 → f' a k = f a k) ∧ ∀ a, a ≠ 60 → a ≠ b + 22 → a ≠ b + 23 → g' a = g a
theorem GI.put (hk : TOK T) (hP : TPF T) {fl ra : Bool} (hG : GI T fl ra f g) {k : Nat} (hl : k < nLa T) {pa wi le : Int} (hp : 1 ≤ pa ∧ pa ≤ 9) (hw : 0 ≤ wi ∧ wi ≤ 60) (hle : 0 ≤ le ∧ le ≤ 40) {K : Int} (eK : KEY (f 55 5) k pa (ms T 4 wi) (ms T 5 le) = K) {g1 : JT} (hg : g1 60 = g 60) {s : Nat} : GI T fl ra (u2 f 61 s (PKg T fl ra (f 55 2) (f 55 1) k pa wi le)) (u2 g1 60 s K) := by
  have h6 := hk.la
  obtain ⟨g4, g3, g1', g2, g5, gR, gC⟩ := hG
  have mw := ms_rng (T := T) (n := 4) hw
  have ml := ms_rng (T := T) (n := 5) hle
  have hkr := KEY_rng (ag := f 55 5) (k := k) (pa := pa) (ow := ms T 4 wi) (ol := ms T 5 le) (by omega) (by omega) mw ml
  unfold GI GC
  rw [u2_o (by omega), u2_o (by omega), u2_o (by omega), u2_o (by omega), u2_o (by omega)]
  refine ⟨g4, g3, g1', g2, g5, fun i hi => ?_, fun s' hs' => ?_⟩
  · rw [u2_o (by omega), u2_o (by omega), u2_o (by omega), u2_o (by omega)]; exact gR i hi
  · by_cases e : s' = s
    · subst e
      rw [u2_s, u2_s]
      refine ⟨by omega, fun k' pa' wi' le' hl' hp' hw' hle' he => ?_⟩
      rw [← eK] at he
      obtain ⟨e1, e2, e3, e4⟩ := KEY_inj he (by omega) (by omega) (by omega) (by omega) mw (ms_rng hw') ml (ms_rng hle')
      subst e1 e2
      have hc := g_cg hk hP (fl := fl) (ra := ra) (sk := f 55 2) (wt := f 55 1) (k := k) (pa := pa) rfl rfl e3 e4
      unfold PKg
      rw [hc.1, hc.2.1, hc.2.2]
    · rw [u2_o (by omega), u2_o (by omega), hg]
      exact gC s' hs'
theorem c_taken (hρ : Fx ρ) (hr : ρ 55 0 = some b) (hb : b = 5 ∨ b = 30) (hC : CT T b f) (hk : TOK T) (hP : TPF T) {fl ra : Bool} (hG : GI T fl ra f g) {k : Nat} (hl : k < nLa T) {pa wi le : Int} (hp : 1 ≤ pa ∧ pa ≤ 9) (hw : 0 ≤ wi ∧ wi ≤ 60) (hle : 0 ≤ le ∧ le ≤ 40) :
    C_X0_taken [.ref 55, .int (iz (k : Int)), .int (iz pa), .int (iz wi), .int (iz le)] ρ f g (fun r ρ' f' g' => r = some (.int (iz (PKg T fl ra (f 55 2) (f 55 1) k pa wi le))) ∧ ρ' = ρ ∧ GI T fl ra f' g' ∧ TKf b f g f' g') := by
  have h6 := hk.la
  have hu := hC.2.2.2.2.2.2
  have hG0 := hG
  obtain ⟨g4, g3, g1, g2, g5, gR, gC⟩ := hG
  obtain ⟨-, e57, -, -⟩ := gR k (by omega)
  have t1 := tat0 hk (j := 1) hl (by omega)
  simp [tcl] at t1
  rw [t1] at e57
  have hln := hk.lane hl
  have hgr := g_rng hk (fl := fl) (ra := ra) (sk := f 55 2) (wt := f 55 1) hl (wi := wi) (le := le) hp
  have mw := ms_rng (T := T) (n := 4) hw
  have ml := ms_rng (T := T) (n := 5) hle
  have hkr := KEY_rng (ag := f 55 5) (k := k) (pa := pa) (ow := ms T 4 wi) (ol := ms T 5 le) (by omega) (by omega) mw ml
  refine Ct.ofV (by decide) rfl (Nat.le_of_ble_eq_true rfl) ?_
  have X : ∀ ow ol, ow = ms T 4 wi → ol = ms T 5 le → V_X0_taken (fun r ρ' f' g' => r = some (.int (iz (PKg T fl ra (f 55 2) (f 55 1) k pa wi le))) ∧ ρ' = ρ ∧ GI T fl ra f' g' ∧ TKf b f g f' g') 81 [.ref 55, .int (iz (k : Int)), .int (iz pa), .int (iz wi), .int (iz le), .ref (b + 17), .int (iz ow), .int (iz ol), .long (lz (KEY (f 55 5) k pa ow ol)), .null, .null, .null, .null, .null] [] ρ f g := fun ow ol how hol => by
    subst how hol
    generalize eK : KEY (f 55 5) k pa (ms T 4 wi) (ms T 5 le) = K at *
    obtain ⟨s, hs⟩ : ∃ s : Nat, K % 4096 = (s : Int) := ⟨(K % 4096).toNat, by omega⟩
    have hs4 : s < 4096 := by omega
    have hgs := gC s hs4
    have rK : rl K := by unfold rl; omega
    have rg : rl (g 60 s) := by unfold rl; omega
    have hnB := fun n => nms_inB hk hl (fl := fl) (ra := ra) (sk := f 55 2) (wt := f 55 1) (wi := wi) (le := le) (pa := pa) (by omega) (by omega) (by omega) (by omega) (by omega) n
    refine V_ll8 dX0_taken_81 ?_
    refine V_ldc2_w (a := 4095) kl_X0_82 rfl dX0_taken_83 ?_
    refine V_land dX0_taken_86 (by rw [lz_and4095, hs]) ?_
    refine V_l2i dX0_taken_87 ?_
    refine V_is10 dX0_taken_88 (by decide) rfl ?_
    refine V_al0n dX0_taken_90 ?_
    refine V_getR kk55 (by decide) fl_X0_41 (fx_55_10 hρ) dX0_taken_91 ?_
    refine V_il10 dX0_taken_94 ?_
    refine V_lald (k := s) kk60 (by decide) (by first | rfl | omega) (by omega) (by first | decide | assumption | omega) rfl dX0_taken_96 ?_
    refine V_ll8 dX0_taken_97 ?_
    refine V_lif_eq (tgt := 194) dX0_taken_99 dX0_taken_100 rfl rg rK (fun b100 => ?_) (fun b100 => ?_)
    · refine V_al0n dX0_taken_194 ?_
      refine V_getR kk55 (by decide) fl_X0_45 (fx_55_11 hρ) dX0_taken_195 ?_
      refine V_il10 dX0_taken_198 ?_
      refine V_iald (k := s) kk61 (by decide) (by first | rfl | omega) (by omega) (by first | decide | assumption | omega) rfl dX0_taken_200 ?_
      exact V_ireturn rfl (by first | exact ⟨by rw [hgs.2 k pa wi le hl hp hw hle (b100.trans eK.symm)], rfl, hG0, fun _ _ _ => rfl, fun _ _ _ _ => rfl⟩ | exact ⟨rfl, rfl, hG0.put hk hP hl hp hw hle eK (by rw [p3 60 (by omega), p2 60 (by omega), p1 60 (by omega), q2 60 (by omega)]), fun a j h1 => u2_o (by omega), fun a h1 h2 h3 => by funext j; rw [u2_o (by omega), p3 a h2, p2 a h2, p1 a h2, q2 a h3]⟩) dX0_taken_201
    · refine V_al0n dX0_taken_103 ?_
      refine V_il1n dX0_taken_104 ?_
      refine V_il2n dX0_taken_105 ?_
      refine V_il3n dX0_taken_106 ?_
      refine V_il4 dX0_taken_107 ?_
      refine V_callV (as := [_, _, _, _]) ml_X0_84 im_X0_give se_X0_give kk55 (by decide) (by decide) dX0_taken_109 rfl rfl (by decide) (by decide) (Nat.le_of_ble_eq_true rfl) (by decide) (by decide) rfl (c_give hρ hr hb hk hG0 hl (by unfold ri; omega) (by unfold ri; omega) (by unfold ri; omega)) ?_
      rintro r109 ρ109 f109 g109 ⟨rfl, s109_0, s109_1, q1, q2⟩
      obtain rfl := s109_0.symm
      obtain rfl := s109_1.symm
      refine V_al5 dX0_taken_112 ?_
      refine V_iconst dX0_taken_114 ?_
      refine V_iconst dX0_taken_115 ?_
      refine V_bipush dX0_taken_116 rfl ?_
      refine V_bipush dX0_taken_118 rfl ?_
      refine V_il2n dX0_taken_120 ?_
      refine V_isub dX0_taken_121 ?_
      refine V_callV (as := [_, _, _, _]) ml_X0_88 im_X1_within se_X1_within (kb_17 hb) (by decide) (kl_17 hb) dX0_taken_122 rfl rfl (by decide) (by decide) (Nat.le_of_ble_eq_true rfl) (by decide) (by decide) rfl (c_within hρ hb hC hk hP (w := 0) (by omega) (nm := nms T k fl ra (f 55 2) (f 55 1) wi le pa) (fun n hn => ⟨q1 n hn, hnB n⟩) (by unfold ri; omega) (by unfold ri; omega) (by unfold ri; omega)) ?_
      rintro r122 ρ122 f122 g122 ⟨rfl, s122_0, s122_1, p1⟩
      obtain rfl := s122_0.symm
      obtain rfl := s122_1.symm
      refine V_is11 dX0_taken_125 (by decide) rfl ?_
      refine V_al5 dX0_taken_127 ?_
      refine V_iconst dX0_taken_129 ?_
      refine V_bipush dX0_taken_130 rfl ?_
      refine V_bipush dX0_taken_132 rfl ?_
      refine V_il2n dX0_taken_134 ?_
      refine V_al0n dX0_taken_135 ?_
      refine V_getR kk55 (by decide) fl_X0_32 (fx_55_7 hρ) dX0_taken_136 ?_
      refine V_il1n dX0_taken_139 ?_
      refine V_iald (k := k) kk57 (by decide) (by first | rfl | omega) (by omega) (by first | decide | assumption | omega) e57 dX0_taken_140 ?_
      refine V_iadd dX0_taken_141 ?_
      refine V_iconst dX0_taken_142 ?_
      refine V_isub dX0_taken_143 ?_
      refine V_callV (as := [_, _, _, _]) ml_X0_88 im_X1_within se_X1_within (kb_17 hb) (by decide) (kl_17 hb) dX0_taken_144 rfl rfl (by decide) (by decide) (Nat.le_of_ble_eq_true rfl) (by decide) (by decide) rfl (c_within hρ hb hC hk hP (w := 1) (by omega) (nm := nms T k fl ra (f 55 2) (f 55 1) wi le pa) (fun n hn => ⟨by rw [p1 (b + 23) (by omega)]; exact q1 n hn, hnB n⟩) (by unfold ri; omega) (by unfold ri; omega) (by unfold ri; split <;> omega)) ?_
      rintro r144 ρ144 f144 g144 ⟨rfl, s144_0, s144_1, p2⟩
      obtain rfl := s144_0.symm
      obtain rfl := s144_1.symm
      refine V_is12 dX0_taken_147 (by decide) rfl ?_
      refine V_al5 dX0_taken_149 ?_
      refine V_iconst dX0_taken_151 ?_
      refine V_iconst dX0_taken_152 ?_
      refine V_bipush dX0_taken_153 rfl ?_
      refine V_iconst dX0_taken_155 ?_
      refine V_callV (as := [_, _, _, _]) ml_X0_88 im_X1_within se_X1_within (kb_17 hb) (by decide) (kl_17 hb) dX0_taken_156 rfl rfl (by decide) (by decide) (Nat.le_of_ble_eq_true rfl) (by decide) (by decide) rfl (c_within hρ hb hC hk hP (w := 2) (by omega) (nm := nms T k fl ra (f 55 2) (f 55 1) wi le pa) (fun n hn => ⟨by rw [p2 (b + 23) (by omega), p1 (b + 23) (by omega)]; exact q1 n hn, hnB n⟩) (by unfold ri; omega) (by unfold ri; omega) (by unfold ri; omega)) ?_
      rintro r156 ρ156 f156 g156 ⟨rfl, s156_0, s156_1, p3⟩
      obtain rfl := s156_0.symm
      obtain rfl := s156_1.symm
      refine V_is13 dX0_taken_159 (by decide) rfl ?_
      refine V_al0n dX0_taken_161 ?_
      refine V_getR kk55 (by decide) fl_X0_41 (fx_55_10 hρ) dX0_taken_162 ?_
      refine V_il10 dX0_taken_165 ?_
      refine V_ll8 dX0_taken_167 ?_
      refine V_last (k := s) kk60 (by decide) (by first | rfl | omega) (by omega) (by first | decide | assumption | omega) dX0_taken_169 ?_
      refine V_al0n dX0_taken_170 ?_
      refine V_getR kk55 (by decide) fl_X0_45 (fx_55_11 hρ) dX0_taken_171 ?_
      refine V_il10 dX0_taken_174 ?_
      refine V_il11 dX0_taken_176 ?_
      refine V_il12 dX0_taken_178 ?_
      refine V_bipush dX0_taken_180 rfl ?_
      refine V_iadd dX0_taken_182 ?_
      refine V_bipush dX0_taken_183 rfl ?_
      refine V_ishl dX0_taken_185 (iz_shlE (b := 7) rfl (by omega) rfl) ?_
      refine V_ior dX0_taken_186 (pk_or hgr.1 hgr.2.1 hgr.2.2).1 ?_
      refine V_il13 dX0_taken_187 ?_
      refine V_bipush dX0_taken_189 rfl ?_
      refine V_ishl dX0_taken_191 (iz_shlE (b := 13) rfl (by omega) rfl) ?_
      refine V_ior dX0_taken_192 (pk_or hgr.1 hgr.2.1 hgr.2.2).2 ?_
      refine V_iast (k := s) kk61 (by decide) (by first | rfl | omega) (by omega) (by first | decide | assumption | omega) dX0_taken_193 ?_
      refine V_al0n dX0_taken_194 ?_
      refine V_getR kk55 (by decide) fl_X0_45 (fx_55_11 hρ) dX0_taken_195 ?_
      refine V_il10 dX0_taken_198 ?_
      refine V_iald (k := s) kk61 (by decide) (by first | rfl | omega) (by omega) (by first | decide | assumption | omega) u2_s dX0_taken_200 ?_
      exact V_ireturn rfl (by first | exact ⟨by rw [hgs.2 k pa wi le hl hp hw hle (b100.trans eK.symm)], rfl, hG0, fun _ _ _ => rfl, fun _ _ _ _ => rfl⟩ | exact ⟨rfl, rfl, hG0.put hk hP hl hp hw hle eK (by rw [p3 60 (by omega), p2 60 (by omega), p1 60 (by omega), q2 60 (by omega)]), fun a j h1 => u2_o (by omega), fun a h1 h2 h3 => by funext j; rw [u2_o (by omega), p3 a h2, p2 a h2, p1 a h2, q2 a h3]⟩) dX0_taken_201
  refine V_al0n dX0_taken_0 ?_
  refine V_getR kk55 (by decide) fl_X0_48 hr dX0_taken_1 ?_
  refine V_getR (kb_0 hb) (kl_0 hb) fl_X0_55 (fb_0_1 hρ hb) dX0_taken_4 ?_
  refine V_as5 dX0_taken_7 (by decide) rfl ?_
  refine V_al5 dX0_taken_9 ?_
  refine V_getR (kb_17 hb) (kl_17 hb) fl_X0_61 (fb_17_7 hρ hb) dX0_taken_11 ?_
  refine V_iconst dX0_taken_14 ?_
  refine V_zald (k := 4) (kb_24 hb) (kl_24 hb) (by first | rfl | omega) (by omega) (by first | decide | assumption | omega) (hu 4 (by omega)) dX0_taken_15 ?_
  refine V_bt (tgt := 23) dX0_taken_16 rfl (fun b16 => ?_) (fun b16 => ?_)
  · refine V_iconst dX0_taken_23 ?_
    refine V_is6 dX0_taken_24 (by decide) rfl ?_
    refine V_al5 dX0_taken_26 ?_
    refine V_getR (kb_17 hb) (kl_17 hb) fl_X0_61 (fb_17_7 hρ hb) dX0_taken_28 ?_
    refine V_iconst dX0_taken_31 ?_
    refine V_zald (k := 5) (kb_24 hb) (kl_24 hb) (by first | rfl | omega) (by omega) (by first | decide | assumption | omega) (hu 5 (by omega)) dX0_taken_32 ?_
    refine V_bt (tgt := 41) dX0_taken_33 rfl (fun b33 => ?_) (fun b33 => ?_)
    · refine V_iconst dX0_taken_41 ?_
      refine V_is7 dX0_taken_42 (by decide) rfl ?_
      refine V_al0n dX0_taken_44 ?_
      refine V_getI kk55 (by decide) fl_X0_25 rfl dX0_taken_45 ?_
      refine V_i2l dX0_taken_48 (by unfold ri; omega) ?_
      refine V_ldc2_w (a := 6) kl_X0_74 rfl dX0_taken_49 ?_
      refine V_lmul dX0_taken_52 ?_
      refine V_il1n dX0_taken_53 ?_
      refine V_i2l dX0_taken_54 (by unfold ri; omega) ?_
      refine V_ladd dX0_taken_55 ?_
      refine V_ldc2_w (a := 10) kl_X0_76 rfl dX0_taken_56 ?_
      refine V_lmul dX0_taken_59 ?_
      refine V_il2n dX0_taken_60 ?_
      refine V_i2l dX0_taken_61 (by unfold ri; omega) ?_
      refine V_ladd dX0_taken_62 ?_
      refine V_ldc2_w (a := 61) kl_X0_78 rfl dX0_taken_63 ?_
      refine V_lmul dX0_taken_66 ?_
      refine V_il6 dX0_taken_67 ?_
      refine V_i2l dX0_taken_69 (by unfold ri; omega) ?_
      refine V_ladd dX0_taken_70 ?_
      refine V_ldc2_w (a := 41) kl_X0_80 rfl dX0_taken_71 ?_
      refine V_lmul dX0_taken_74 ?_
      refine V_il7 dX0_taken_75 ?_
      refine V_i2l dX0_taken_77 (by unfold ri; omega) ?_
      refine V_ladd dX0_taken_78 ?_
      refine V_ls8 dX0_taken_79 (by decide) rfl ?_
      exact X _ _ (by unfold ms; simp [b16]) (by unfold ms; simp [b33])
    · refine V_il4 dX0_taken_36 ?_
      refine V_goto (tgt := 42) dX0_taken_38 rfl ?_
      refine V_is7 dX0_taken_42 (by decide) rfl ?_
      refine V_al0n dX0_taken_44 ?_
      refine V_getI kk55 (by decide) fl_X0_25 rfl dX0_taken_45 ?_
      refine V_i2l dX0_taken_48 (by unfold ri; omega) ?_
      refine V_ldc2_w (a := 6) kl_X0_74 rfl dX0_taken_49 ?_
      refine V_lmul dX0_taken_52 ?_
      refine V_il1n dX0_taken_53 ?_
      refine V_i2l dX0_taken_54 (by unfold ri; omega) ?_
      refine V_ladd dX0_taken_55 ?_
      refine V_ldc2_w (a := 10) kl_X0_76 rfl dX0_taken_56 ?_
      refine V_lmul dX0_taken_59 ?_
      refine V_il2n dX0_taken_60 ?_
      refine V_i2l dX0_taken_61 (by unfold ri; omega) ?_
      refine V_ladd dX0_taken_62 ?_
      refine V_ldc2_w (a := 61) kl_X0_78 rfl dX0_taken_63 ?_
      refine V_lmul dX0_taken_66 ?_
      refine V_il6 dX0_taken_67 ?_
      refine V_i2l dX0_taken_69 (by unfold ri; omega) ?_
      refine V_ladd dX0_taken_70 ?_
      refine V_ldc2_w (a := 41) kl_X0_80 rfl dX0_taken_71 ?_
      refine V_lmul dX0_taken_74 ?_
      refine V_il7 dX0_taken_75 ?_
      refine V_i2l dX0_taken_77 (by unfold ri; omega) ?_
      refine V_ladd dX0_taken_78 ?_
      refine V_ls8 dX0_taken_79 (by decide) rfl ?_
      exact X _ _ (by unfold ms; simp [b16]) (by unfold ms; simp [b33])
  · refine V_il3n dX0_taken_19 ?_
    refine V_goto (tgt := 24) dX0_taken_20 rfl ?_
    refine V_is6 dX0_taken_24 (by decide) rfl ?_
    refine V_al5 dX0_taken_26 ?_
    refine V_getR (kb_17 hb) (kl_17 hb) fl_X0_61 (fb_17_7 hρ hb) dX0_taken_28 ?_
    refine V_iconst dX0_taken_31 ?_
    refine V_zald (k := 5) (kb_24 hb) (kl_24 hb) (by first | rfl | omega) (by omega) (by first | decide | assumption | omega) (hu 5 (by omega)) dX0_taken_32 ?_
    refine V_bt (tgt := 41) dX0_taken_33 rfl (fun b33 => ?_) (fun b33 => ?_)
    · refine V_iconst dX0_taken_41 ?_
      refine V_is7 dX0_taken_42 (by decide) rfl ?_
      refine V_al0n dX0_taken_44 ?_
      refine V_getI kk55 (by decide) fl_X0_25 rfl dX0_taken_45 ?_
      refine V_i2l dX0_taken_48 (by unfold ri; omega) ?_
      refine V_ldc2_w (a := 6) kl_X0_74 rfl dX0_taken_49 ?_
      refine V_lmul dX0_taken_52 ?_
      refine V_il1n dX0_taken_53 ?_
      refine V_i2l dX0_taken_54 (by unfold ri; omega) ?_
      refine V_ladd dX0_taken_55 ?_
      refine V_ldc2_w (a := 10) kl_X0_76 rfl dX0_taken_56 ?_
      refine V_lmul dX0_taken_59 ?_
      refine V_il2n dX0_taken_60 ?_
      refine V_i2l dX0_taken_61 (by unfold ri; omega) ?_
      refine V_ladd dX0_taken_62 ?_
      refine V_ldc2_w (a := 61) kl_X0_78 rfl dX0_taken_63 ?_
      refine V_lmul dX0_taken_66 ?_
      refine V_il6 dX0_taken_67 ?_
      refine V_i2l dX0_taken_69 (by unfold ri; omega) ?_
      refine V_ladd dX0_taken_70 ?_
      refine V_ldc2_w (a := 41) kl_X0_80 rfl dX0_taken_71 ?_
      refine V_lmul dX0_taken_74 ?_
      refine V_il7 dX0_taken_75 ?_
      refine V_i2l dX0_taken_77 (by unfold ri; omega) ?_
      refine V_ladd dX0_taken_78 ?_
      refine V_ls8 dX0_taken_79 (by decide) rfl ?_
      exact X _ _ (by unfold ms; simp [b16]) (by unfold ms; simp [b33])
    · refine V_il4 dX0_taken_36 ?_
      refine V_goto (tgt := 42) dX0_taken_38 rfl ?_
      refine V_is7 dX0_taken_42 (by decide) rfl ?_
      refine V_al0n dX0_taken_44 ?_
      refine V_getI kk55 (by decide) fl_X0_25 rfl dX0_taken_45 ?_
      refine V_i2l dX0_taken_48 (by unfold ri; omega) ?_
      refine V_ldc2_w (a := 6) kl_X0_74 rfl dX0_taken_49 ?_
      refine V_lmul dX0_taken_52 ?_
      refine V_il1n dX0_taken_53 ?_
      refine V_i2l dX0_taken_54 (by unfold ri; omega) ?_
      refine V_ladd dX0_taken_55 ?_
      refine V_ldc2_w (a := 10) kl_X0_76 rfl dX0_taken_56 ?_
      refine V_lmul dX0_taken_59 ?_
      refine V_il2n dX0_taken_60 ?_
      refine V_i2l dX0_taken_61 (by unfold ri; omega) ?_
      refine V_ladd dX0_taken_62 ?_
      refine V_ldc2_w (a := 61) kl_X0_78 rfl dX0_taken_63 ?_
      refine V_lmul dX0_taken_66 ?_
      refine V_il6 dX0_taken_67 ?_
      refine V_i2l dX0_taken_69 (by unfold ri; omega) ?_
      refine V_ladd dX0_taken_70 ?_
      refine V_ldc2_w (a := 41) kl_X0_80 rfl dX0_taken_71 ?_
      refine V_lmul dX0_taken_74 ?_
      refine V_il7 dX0_taken_75 ?_
      refine V_i2l dX0_taken_77 (by unfold ri; omega) ?_
      refine V_ladd dX0_taken_78 ?_
      refine V_ls8 dX0_taken_79 (by decide) rfl ?_
      exact X _ _ (by unfold ms; simp [b16]) (by unfold ms; simp [b33])
end GIVE
section STEPSOF
variable {T : TT} {b : Nat} {ρ : RT} {f : IT} {g : JT}
theorem c_stepsOf (hρ : Fx ρ) {k : Nat} (hk : k < 6) {v : Int} (hv : f 56 k = v) : C_X0_stepsOf [.ref 55, .int (iz (k : Int))] ρ f g (fun r ρ' f' g' => r = some (.int (iz v)) ∧ ρ' = ρ ∧ f' = f ∧ g' = g) := by
  refine Ct.ofV (by decide) rfl (Nat.le_of_ble_eq_true rfl) ?_
  refine V_il1n dX0_stepsOf_0 ?_
  refine V_if_lt (tgt := 19) dX0_stepsOf_1 rfl (by unfold ri; omega) (fun b1 => ?_) (fun b1 => ?_)
  · exfalso; omega
  · refine V_il1n dX0_stepsOf_4 ?_
    refine V_bipush dX0_stepsOf_5 rfl ?_
    refine V_icmp_ge (tgt := 19) dX0_stepsOf_7 rfl (by unfold ri; omega) (by unfold ri; omega) (fun b7 => ?_) (fun b7 => ?_)
    · exfalso; omega
    · refine V_al0n dX0_stepsOf_10 ?_
      refine V_getR kk55 (by decide) fl_X0_28 (fx_55_6 hρ) dX0_stepsOf_11 ?_
      refine V_il1n dX0_stepsOf_14 ?_
      refine V_iald (k := k) kk56 (by decide) (by first | rfl | omega) (by omega) (by first | decide | assumption | omega) hv dX0_stepsOf_15 ?_
      refine V_goto (tgt := 20) dX0_stepsOf_16 rfl ?_
      exact V_ireturn rfl ⟨rfl, rfl, rfl, rfl⟩ dX0_stepsOf_20
end STEPSOF

