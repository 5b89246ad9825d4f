/-- what laying a walk anew may change too -/
def KW (f f' : IT) : Prop := ∀ a k, ¬ (a = 104 ∧ (k = 66 ∨ 70 ≤ k ∧ k ≤ 77)) → f' a k = f a k
theorem KS.kw {f f' : IT} (h : KS f f') : KW f f' := fun a k q => h a k (by omega)
theorem KW.rf {f : IT} : KW f f := fun _ _ _ => rfl
theorem KW.tr {f f' f'' : IT} (h : KW f f') (h' : KW f' f'') : KW f f'' := fun a k q => (h' a k q).trans (h a k q)
theorem KW.km {f f' : IT} (h : KW f f') : KM f f' := fun a k hs => h a k (fun q => by
  obtain ⟨rfl, q⟩ := q
  unfold scM at hs
  simp at hs
  omega)
theorem KW.mt {T : TT} {f f' : IT} (h : KW f f') (hT : MT T f) : MT T f' := hT.km h.km
theorem KG.km2 {g g' g'' : JT} (h : KM g g') (h' : KG g' g'') : KM g g'' := h.tr h'.km
theorem w_steadyIn {T : TT} {Q : QT} {ρ : RT} {f0 : IT} {g0 : JT} (hρ : Fx ρ) (hk : TOK T) {h : Nat} (hh : h < nHo T) {c : CC} (hc : CR c) {st : SS} {am aw pa : Int} (hp : 1 ≤ pa ∧ pa ≤ 9)
    (hQ : ∀ (f : IT) (g : JT), KW f0 f → KG g0 g → Q (some (.int (iz (if (rn T c (T 117 h) (fun _ => pa) (nLa T) st).2.2.1 = 0 then 99999 else (rn T c (T 117 h) (fun _ => pa) (nLa T) st).1)))) ρ f g)
    (k : Nat) (hkE : k < nLa T) (hX : ∀ (f : IT) (g : JT) (s : SS), MT T f → MS c s f → SR s → s.2.2.1 ≠ 0 → KW f0 f → KG g0 g → rn T c (T 117 h) (fun _ => pa) (k + 1) st = s → V_X12_steady Q 20 [.ref 104, .int (iz am), .int (iz (h : Int)), .int (iz pa), .int (iz aw), .int (iz ((k : Int) + 1)), .null] [] ρ f g)
    (i : Nat) (f : IT) (g : JT) (s : SS) (hT : MT T f) (hM : MS c s f) (hs : SR s) (hpos : s.2.2.1 ≠ 0) (hf : KW f0 f) (hg : KG g0 g) (hi : (i : Int) ≤ T 108 k) (hr : rn T c (T 117 h) (fun _ => pa) (k + 1) st = thr T c k (T 117 h) pa ((T 108 k).toNat - i) s) :
    V_X12_steady Q 32 [.ref 104, .int (iz am), .int (iz (h : Int)), .int (iz pa), .int (iz aw), .int (iz (k : Int)), .int (iz (i : Int))] [] ρ f g := by
  have h6 := hk.la
  have hlk := (hk.lane (k := k) (by omega)).1
  refine V_il6 dX12_steady_32 ?_
  refine V_al0n dX12_steady_34 ?_
  refine V_getR kk104 (by decide) fl_X12_23 (fx_104_31 hρ) dX12_steady_35 ?_
  refine V_il5 dX12_steady_38 ?_
  refine V_iald (k := k) kk108 (by decide) (by first | rfl | omega) (by omega) (by first | decide | assumption | omega) (hT.at rfl (by omega : k < 6)) dX12_steady_40 ?_
  refine V_icmp_ge (tgt := 68) dX12_steady_41 rfl (by first | assumption | (unfold ri at *; omega)) (by first | assumption | (unfold ri at *; omega)) (fun b41 => ?_) (fun b41 => ?_)
  · refine V_inc5 dX12_steady_68 (by decide) rfl ?_
    refine V_goto (tgt := 20) dX12_steady_71 rfl ?_
    exact V_weak (by repeat (first | exact wk_n | refine wk_c (Or.inr rfl) ?_ | refine wk_c (Or.inl rfl) ?_)) (hX f g s hT hM hs hpos hf hg (by rw [hr, show (T 108 k).toNat - i = 0 by omega]; rfl))
  · refine V_al0n dX12_steady_44 ?_
    refine V_il5 dX12_steady_45 ?_
    refine V_il2n dX12_steady_47 ?_
    refine V_il3n dX12_steady_48 ?_
    refine V_callV (as := [_, _, _]) ml_X12_470 im_X12_step se_X12_step kk104 (by decide) (by decide) dX12_steady_49 rfl rfl (by decide) (by decide) (Nat.le_of_ble_eq_true rfl) (by decide) (by decide) rfl (c_step1 hρ hT hk (by omega) hh hM hc hs hp) ?_
    rintro r49 ρ49 f49 g49 ⟨rfl, s49_0, hM1, ks1, kg1⟩
    obtain rfl := s49_0.symm
    have hr1 := hr
    rw [show (T 108 k).toNat - i = ((T 108 k).toNat - (i + 1)) + 1 by omega, thr, if_neg hpos] at hr1
    have hs1 := (one_rng hk hc (by omega : k < nLa T) hh hp hs).1
    refine V_al0n dX12_steady_52 ?_
    refine V_getI kk104 (by decide) fl_X12_420 hM1.2.2.2.2.2.2.2.1 dX12_steady_53 ?_
    refine V_if_ne (tgt := 62) dX12_steady_56 rfl (by unfold SR at hs1; unfold ri; omega) (fun b56 => ?_) (fun b56 => ?_)
    · refine V_inc6 dX12_steady_62 (by decide) rfl ?_
      refine V_goto (tgt := 32) dX12_steady_65 rfl ?_
      exact w_steadyIn hρ hk hh hc hp hQ k hkE hX (i + 1) f49 g49 _ (ks1.mt hT) hM1 hs1 b56 (hf.tr ks1.kw) (hg.tr kg1) (by omega) hr1
    · rw [thr_out b56] at hr1
      have ho := rn_out (j := nLa T) (by rw [hr1]; exact b56) (by omega)
      refine V_ldc (a := 99999) kc_X12_192 rfl dX12_steady_59 ?_
      exact V_ireturn rfl (by have := hQ f49 g49 (hf.tr ks1.kw) (hg.tr kg1); rw [ho, hr1, if_pos b56] at this; exact this) dX12_steady_61
termination_by (T 108 k).toNat - i
theorem w_steady {T : TT} {Q : QT} {ρ : RT} {f0 : IT} {g0 : JT} (hρ : Fx ρ) (hk : TOK T) {h : Nat} (hh : h < nHo T) {c : CC} (hc : CR c) {st : SS} {am aw pa : Int} (hp : 1 ≤ pa ∧ pa ≤ 9)
    (hQ : ∀ (f : IT) (g : JT), KW f0 f → KG g0 g → Q (some (.int (iz (if (rn T c (T 117 h) (fun _ => pa) (nLa T) st).2.2.1 = 0 then 99999 else (rn T c (T 117 h) (fun _ => pa) (nLa T) st).1)))) ρ f g)
    (k : Nat) (hkE : k ≤ nLa T) (f : IT) (g : JT) (s : SS) (hT : MT T f) (hM : MS c s f) (hs : SR s) (hpos : s.2.2.1 ≠ 0) (hf : KW f0 f) (hg : KG g0 g) (hr : rn T c (T 117 h) (fun _ => pa) k st = s) :
    V_X12_steady Q 20 [.ref 104, .int (iz am), .int (iz (h : Int)), .int (iz pa), .int (iz aw), .int (iz (k : Int)), .null] [] ρ f g := by
  have h6 := hk.la
  have fl : f 104 12 = ((nLa T : Nat) : Int) := (hT 104 12 rfl).trans h6.1
  refine V_il5 dX12_steady_20 ?_
  refine V_al0n dX12_steady_22 ?_
  refine V_getI kk104 (by decide) fl_X12_250 fl dX12_steady_23 ?_
  refine V_icmp_ge (tgt := 74) dX12_steady_26 rfl (by first | assumption | (unfold ri at *; omega)) (by first | assumption | (unfold ri at *; omega)) (fun b26 => ?_) (fun b26 => ?_)
  · have ek : k = nLa T := by omega
    subst ek
    refine V_al0n dX12_steady_74 ?_
    refine V_getI kk104 (by decide) fl_X12_441 hM.2.2.2.2.2.1 dX12_steady_75 ?_
    exact V_ireturn rfl (by have := hQ f g hf hg; rw [hr, if_neg hpos] at this; exact this) dX12_steady_78
  · refine V_iconst dX12_steady_29 ?_
    refine V_is6 dX12_steady_30 (by decide) rfl ?_
    exact w_steadyIn hρ hk hh hc hp hQ k (by omega) (fun f1 g1 x1 c1 c2 c4 c5 c6 c7 c8 => w_steady hρ hk hh hc hp hQ (k + 1) (by omega) f1 g1 x1 c1 c2 c4 c5 c6 c7 c8) 0 f g s hT hM hs hpos hf hg (by have := (hk.lane (k := k) (by omega)).1; omega) (by simp only [rn]; rw [hr]; rfl)
termination_by nLa T - k
/-- at one pace all the way from a wind on, which is the most -/
def std (T : TT) (ra : Bool) (sk : Int) (m h : Nat) (pa w : Int) : SS := rn T (false, ra, sk, T 115 m, w) (T 117 h) (fun _ => pa) (nLa T) (0, w, T 114 m, 0)
def tenS (s : SS) : Int := if s.2.2.1 = 0 then 99999 else s.1
theorem c_steady {T : TT} {ρ : RT} {f : IT} {g : JT} (hρ : Fx ρ) (hT : MT T f) (hk : TOK T) {sk : Int} {ra : Bool} (hs : f 104 67 = sk) (hsk : 0 ≤ sk ∧ sk ≤ 30) (hr : f 104 68 = bz ra) {m h : Nat} (hm : m < nMe T) (hh : h < nHo T) {pa w : Int} (hp : 1 ≤ pa ∧ pa ≤ 9) (hw : 1 ≤ w ∧ w ≤ 60) :
    C_X12_steady [.ref 104, .int (iz (m : Int)), .int (iz (h : Int)), .int (iz pa), .int (iz w)] ρ f g (fun r ρ' f' g' => r = some (.int (iz (tenS (std T ra sk m h pa w)))) ∧ ρ' = ρ ∧ KW f f' ∧ KG g g') := by
  have hma := hk.man hm
  refine Ct.ofV (by decide) rfl (Nat.le_of_ble_eq_true rfl) ?_
  refine V_al0n dX12_steady_0 ?_
  refine V_il1n dX12_steady_1 ?_
  refine V_callV (as := [_]) ml_X12_467 im_X12_begins se_X12_begins kk104 (by decide) (by decide) dX12_steady_2 rfl rfl (by decide) (by decide) (Nat.le_of_ble_eq_true rfl) (by decide) (by decide) rfl (c_begins1 hρ hT hk hm (ra := ra) hs hr) ?_
  rintro r2 ρ2 f2 g2 ⟨rfl, s2_0, hM, km, hT2, kb, s2_1⟩
  obtain rfl := s2_0.symm
  obtain rfl := s2_1.symm
  refine V_al0n dX12_steady_5 ?_
  refine V_il4 dX12_steady_6 ?_
  refine V_putI kk104 (by decide) fl_X12_417 rfl dX12_steady_8 ?_
  refine V_al0n dX12_steady_11 ?_
  refine V_il4 dX12_steady_12 ?_
  refine V_putI kk104 (by decide) fl_X12_444 rfl dX12_steady_14 ?_
  refine V_iconst dX12_steady_17 ?_
  refine V_is5 dX12_steady_18 (by decide) rfl ?_
  obtain ⟨m1, m2, m3, m4, m5, m6, m7, m8, m9⟩ := hM
  have kw : KW f (u2 (u2 f2 104 74 w) 104 73 w) := fun a k q => (u2_o (by omega)).trans ((u2_o (by omega)).trans (kb a k (by omega)))
  exact w_steady hρ hk hh (c := (false, ra, sk, T 115 m, w)) (st := (0, w, T 114 m, 0)) (by unfold CR; simp only; omega) hp (fun f' g' a1 a2 => ⟨rfl, rfl, kw.tr a1, a2⟩) 0 (by omega) _ g (0, w, T 114 m, 0) (kw.mt hT) ⟨u2_n (by omega) (u2_n (by omega) m1), u2_n (by omega) (u2_n (by omega) m2), u2_n (by omega) (u2_n (by omega) m3), u2_n (by omega) (u2_n (by omega) m4), u2_s, u2_n (by omega) (u2_n (by omega) m6), u2_n (by omega) u2_s, u2_n (by omega) (u2_n (by omega) m8), u2_n (by omega) (u2_n (by omega) m9)⟩ (by unfold SR; simp only; omega) (by simp only; omega) KW.rf KG.rf rfl
theorem tenS_rng {T : TT} (hk : TOK T) {sk : Int} {ra : Bool} (hsk : 0 ≤ sk ∧ sk ≤ 30) {m h : Nat} (hm : m < nMe T) (hh : h < nHo T) {pa w : Int} (hp : 1 ≤ pa ∧ pa ≤ 9) (hw : 1 ≤ w ∧ w ≤ 60) : 0 ≤ tenS (std T ra sk m h pa w) ∧ tenS (std T ra sk m h pa w) ≤ 99999 ∧ (tenS (std T ra sk m h pa w) < 99999 ↔ (std T ra sk m h pa w).2.2.1 ≠ 0) := by
  have hma := hk.man hm
  have h6 := hk.la
  have h1 := rn_rng hk (c := (false, ra, sk, T 115 m, w)) (by unfold CR; simp only; omega) hh (pc := fun _ => pa) (fun _ => hp) (s := (0, w, T 114 m, 0)) (by unfold SR; simp only; omega) (nLa T) (by omega)
  unfold tenS std
  simp only at h1
  split
  · simp [*]
  · constructor
    · omega
    · constructor
      · omega
      · constructor
        · intro _; assumption
        · intro _; omega
/-- whether he comes up at this pace from each wind of a range -/
def isS (T : TT) (ra : Bool) (sk : Int) (m h : Nat) (pa : Int) : Nat → Int → Bool
  | 0, _ => true
  | n + 1, w => if tenS (std T ra sk m h pa w) < 99999 then isS T ra sk m h pa n (w + 1) else false
theorem w_safeIn {T : TT} {Q : QT} {ρ : RT} {f0 : IT} {g0 : JT} (hρ : Fx ρ) (hk : TOK T) {sk : Int} {ra : Bool} (hs : f0 104 67 = sk) (hsk : 0 ≤ sk ∧ sk ≤ 30) (hr : f0 104 68 = bz ra) {m h : Nat} (hm : m < nMe T) (hh : h < nHo T) {fr wt b1 tm pa : Int} (hp : 1 ≤ pa ∧ pa ≤ 9) (hT0 : MT T f0) {R : Bool}
    (hX : ∀ (f : IT) (g : JT), KW f0 f → KG g0 g → V_X12_safe Q 115 [.ref 104, .int (iz (m : Int)), .int (iz (h : Int)), .int (iz fr), .int (iz wt), .int (iz b1), .int (iz tm), .int (iz pa), .int (iz (bz R)), .null] [] ρ f g)
    (n : Nat) (w : Int) (hw : 1 ≤ w ∧ w ≤ T 113 m) (hn : n = (T 113 m - w).toNat) (b : Bool) (f : IT) (g : JT) (hf : KW f0 f) (hg : KG g0 g) (hR : R = (b && (if b = true then isS T ra sk m h pa n w else true))) :
    V_X12_safe Q 71 [.ref 104, .int (iz (m : Int)), .int (iz (h : Int)), .int (iz fr), .int (iz wt), .int (iz b1), .int (iz tm), .int (iz pa), .int (iz (bz b)), .int (iz w)] [] ρ f g := by
  have h5 := hk.me
  have hma := hk.man hm
  have hT := hf.mt hT0
  refine V_il9 dX12_safe_71 ?_
  refine V_al0n dX12_safe_73 ?_
  refine V_getR kk104 (by decide) fl_X12_39 (fx_104_36 hρ) dX12_safe_74 ?_
  refine V_il1n dX12_safe_77 ?_
  refine V_iald (k := m) kk113 (by decide) (by first | rfl | omega) (by omega) (by first | decide | assumption | omega) (hT.at rfl (by omega : m < 5)) dX12_safe_78 ?_
  refine V_icmp_ge (tgt := 115) dX12_safe_79 rfl (by first | assumption | (unfold ri at *; omega)) (by first | assumption | (unfold ri at *; omega)) (fun b79 => ?_) (fun b79 => ?_)
  · have en : n = 0 := by omega
    subst en
    have eR : R = b := by rw [hR]; first | (rw [b84]; rfl) | (cases b <;> simp [isS])
    subst eR
    exact V_weak (by repeat (first | exact wk_n | refine wk_c (Or.inr rfl) ?_ | refine wk_c (Or.inl rfl) ?_)) (hX f g hf hg)
  · obtain ⟨n', rfl⟩ : ∃ k, n = k + 1 := ⟨n - 1, by omega⟩
    have hten := tenS_rng hk (ra := ra) hsk hm hh hp (w := w) (by omega)
    refine V_il8 dX12_safe_82 ?_
    refine V_bt (tgt := 115) dX12_safe_84 rfl (fun b84 => ?_) (fun b84 => ?_)
    · have eR : R = b := by rw [hR]; first | (rw [b84]; rfl) | (cases b <;> simp [isS])
      subst eR
      exact V_weak (by repeat (first | exact wk_n | refine wk_c (Or.inr rfl) ?_ | refine wk_c (Or.inl rfl) ?_)) (hX f g hf hg)
    · rw [b84] at hR
      simp only [isS, Bool.true_and, if_true] at hR
      refine V_al0n dX12_safe_87 ?_
      refine V_il1n dX12_safe_88 ?_
      refine V_il2n dX12_safe_89 ?_
      refine V_il7 dX12_safe_90 ?_
      refine V_il9 dX12_safe_92 ?_
      refine V_callV (as := [_, _, _, _]) ml_X12_540 im_X12_steady se_X12_steady kk104 (by decide) (by decide) dX12_safe_94 rfl rfl (by decide) (by decide) (Nat.le_of_ble_eq_true rfl) (by decide) (by decide) rfl (c_steady hρ hT hk (ra := ra) ((hf 104 67 (by omega)).trans hs) hsk ((hf 104 68 (by omega)).trans hr) hm hh hp (by omega)) ?_
      rintro r94 ρ94 f94 g94 ⟨rfl, s94_0, kf, kg⟩
      obtain rfl := s94_0.symm
      refine V_ldc (a := 99999) kc_X12_192 rfl dX12_safe_97 ?_
      refine V_icmp_ge (tgt := 106) dX12_safe_99 rfl (by first | assumption | (unfold ri at *; omega)) (by first | assumption | (unfold ri at *; omega)) (fun b99 => ?_) (fun b99 => ?_)
      · refine V_iconst dX12_safe_106 ?_
        refine V_is8 dX12_safe_107 (by decide) rfl ?_
        refine V_inc9 dX12_safe_109 (by decide) rfl ?_
        refine V_goto (tgt := 71) dX12_safe_112 rfl ?_
        first | exact w_safeIn hρ hk hs hsk hr hm hh hp hT0 hX n' (w + 1) (by omega) (by omega) true _ _ (hf.tr kf) (hg.tr kg) (by rw [hR, if_pos (by omega)]; simp) | exact w_safeIn hρ hk hs hsk hr hm hh hp hT0 hX n' (w + 1) (by omega) (by omega) false _ _ (hf.tr kf) (hg.tr kg) (by rw [hR, if_neg (by omega)]; simp)
      · refine V_iconst dX12_safe_102 ?_
        refine V_goto (tgt := 107) dX12_safe_103 rfl ?_
        refine V_is8 dX12_safe_107 (by decide) rfl ?_
        refine V_inc9 dX12_safe_109 (by decide) rfl ?_
        refine V_goto (tgt := 71) dX12_safe_112 rfl ?_
        first | exact w_safeIn hρ hk hs hsk hr hm hh hp hT0 hX n' (w + 1) (by omega) (by omega) true _ _ (hf.tr kf) (hg.tr kg) (by rw [hR, if_pos (by omega)]; simp) | exact w_safeIn hρ hk hs hsk hr hm hh hp hT0 hX n' (w + 1) (by omega) (by omega) false _ _ (hf.tr kf) (hg.tr kg) (by rw [hR, if_neg (by omega)]; simp)
termination_by n
def sfR (T : TT) (ra : Bool) (sk : Int) (m h : Nat) (fr : Int) : Nat → Int → Int × Int → Int × Int
  | 0, _, x => x
  | n + 1, p, x => sfR T ra sk m h fr n (p + 1) (if (if isS T ra sk m h p (T 113 m - fr).toNat fr = true then tenS (std T ra sk m h p (T 113 m)) else 99999) < x.2 then (p, if isS T ra sk m h p (T 113 m - fr).toNat fr = true then tenS (std T ra sk m h p (T 113 m)) else 99999) else x)
theorem w_safe {T : TT} {Q : QT} {ρ : RT} {f0 : IT} {g0 : JT} (hρ : Fx ρ) (hk : TOK T) {sk : Int} {ra : Bool} (hs : f0 104 67 = sk) (hsk : 0 ≤ sk ∧ sk ≤ 30) (hr : f0 104 68 = bz ra) {m h : Nat} (hm : m < nMe T) (hh : h < nHo T) {fr wt : Int} (hfr : 1 ≤ fr ∧ fr ≤ T 113 m) (hwt : ri wt) (hT0 : MT T f0) {R : Int × Int}
    (hQ : ∀ (f : IT) (g : JT), KW f0 f → KG g0 g → Q (some (.int (iz (if R.1 < 0 then -2 else if wt = 0 then R.1 else R.2)))) ρ f g)
    (i : Nat) (hi : 1 ≤ i ∧ i ≤ 10) (x : Int × Int) (hx : -2 ≤ x.1 ∧ x.1 ≤ 10) (hx2 : 0 ≤ x.2 ∧ x.2 ≤ 99999) (f : IT) (g : JT) (hf : KW f0 f) (hg : KG g0 g) (hR : sfR T ra sk m h fr (10 - i) (i : Int) x = R) :
    V_X12_safe Q 58 [.ref 104, .int (iz (m : Int)), .int (iz (h : Int)), .int (iz fr), .int (iz wt), .int (iz x.1), .int (iz x.2), .int (iz (i : Int)), .null, .null] [] ρ f g := by
  have h5 := hk.me
  have hma := hk.man hm
  by_cases e : i < 10
  · have hR1 := hR
    rw [show 10 - i = (10 - (i + 1)) + 1 by omega, sfR] at hR1
    have hten := tenS_rng hk (ra := ra) hsk hm hh (pa := (i : Int)) (by omega) (w := T 113 m) (by omega)
    refine V_il7 dX12_safe_58 ?_
    refine V_bipush dX12_safe_60 rfl ?_
    refine V_icmp_ge (tgt := 165) dX12_safe_62 rfl (by first | assumption | (unfold ri at *; omega)) (by first | assumption | (unfold ri at *; omega)) (fun b62 => ?_) (fun b62 => ?_)
    · exfalso; omega
    · refine V_iconst dX12_safe_65 ?_
      refine V_is8 dX12_safe_66 (by decide) rfl ?_
      refine V_il3n dX12_safe_68 ?_
      refine V_is9 dX12_safe_69 (by decide) rfl ?_
      refine w_safeIn hρ hk hs hsk hr hm hh (pa := (i : Int)) (by omega) hT0 (R := isS T ra sk m h (i : Int) (T 113 m - fr).toNat fr) ?_ _ fr hfr rfl true f g hf hg (by simp)
      intro f1 g1 hf1 hg1
      have hT1 := hf1.mt hT0
      have next : ∀ by_ : Int, by_ = (if isS T ra sk m h (i : Int) (T 113 m - fr).toNat fr = true then tenS (std T ra sk m h (i : Int) (T 113 m)) else 99999) → ∀ (f2 : IT) (g2 : JT), KW f0 f2 → KG g0 g2 → V_X12_safe Q 139 [.ref 104, .int (iz (m : Int)), .int (iz (h : Int)), .int (iz fr), .int (iz wt), .int (iz x.1), .int (iz x.2), .int (iz (i : Int)), .null, .null] [.int (iz by_)] ρ f2 g2 := by
        intro by_ eby f2 g2 hf2 hg2
        rw [← eby] at hR1
        have rby : 0 ≤ by_ ∧ by_ ≤ 99999 := by rw [eby]; split <;> omega
        refine V_is9 dX12_safe_139 (by decide) rfl ?_
        refine V_il9 dX12_safe_141 ?_
        refine V_il6 dX12_safe_143 ?_
        refine V_icmp_lt (tgt := 151) dX12_safe_145 rfl (by unfold ri; omega) (by unfold ri; omega) (fun b145 => ?_) (fun b145 => ?_)
        · rw [if_pos b145] at hR1
          refine V_il9 dX12_safe_151 ?_
          refine V_is6 dX12_safe_153 (by decide) rfl ?_
          refine V_il7 dX12_safe_155 ?_
          refine V_is5 dX12_safe_157 (by decide) rfl ?_
          refine V_inc7 dX12_safe_159 (by decide) rfl ?_
          refine V_goto (tgt := 58) dX12_safe_162 rfl ?_
          exact V_weak (by repeat (first | exact wk_n | refine wk_c (Or.inr rfl) ?_ | refine wk_c (Or.inl rfl) ?_)) (w_safe hρ hk hs hsk hr hm hh hfr hwt hT0 hQ (i + 1) (by omega) ((i : Int), by_) (by simp only; omega) (by simp only; omega) f2 g2 hf2 hg2 hR1)
        · rw [if_neg b145] at hR1
          refine V_goto (tgt := 159) dX12_safe_148 rfl ?_
          refine V_inc7 dX12_safe_159 (by decide) rfl ?_
          refine V_goto (tgt := 58) dX12_safe_162 rfl ?_
          exact V_weak (by repeat (first | exact wk_n | refine wk_c (Or.inr rfl) ?_ | refine wk_c (Or.inl rfl) ?_)) (w_safe hρ hk hs hsk hr hm hh hfr hwt hT0 hQ (i + 1) (by omega) x hx hx2 f2 g2 hf2 hg2 hR1)
      refine V_il8 dX12_safe_115 ?_
      refine V_bt (tgt := 137) dX12_safe_117 rfl (fun b117 => ?_) (fun b117 => ?_)
      · refine V_ldc (a := 99999) kc_X12_192 rfl dX12_safe_137 ?_
        exact V_weak (by repeat (first | exact wk_n | refine wk_c (Or.inr rfl) ?_ | refine wk_c (Or.inl rfl) ?_)) (next _ (by rw [b117]; rfl) f1 g1 hf1 hg1)
      · refine V_al0n dX12_safe_120 ?_
        refine V_il1n dX12_safe_121 ?_
        refine V_il2n dX12_safe_122 ?_
        refine V_il7 dX12_safe_123 ?_
        refine V_al0n dX12_safe_125 ?_
        refine V_getR kk104 (by decide) fl_X12_39 (fx_104_36 hρ) dX12_safe_126 ?_
        refine V_il1n dX12_safe_129 ?_
        refine V_iald (k := m) kk113 (by decide) rfl (by omega) (by decide) (hT1.at rfl (by omega : m < 5)) dX12_safe_130 ?_
        refine V_callV (as := [_, _, _, _]) ml_X12_540 im_X12_steady se_X12_steady kk104 (by decide) (by decide) dX12_safe_131 rfl rfl (by decide) (by decide) (Nat.le_of_ble_eq_true rfl) (by decide) (by decide) rfl (c_steady hρ hT1 hk (ra := ra) ((hf1 104 67 (by omega)).trans hs) hsk ((hf1 104 68 (by omega)).trans hr) hm hh (by omega) (by omega)) ?_
        rintro r131 ρ131 f131 g131 ⟨rfl, s1, kf, kg⟩
        obtain rfl := s1.symm
        refine V_goto (tgt := 139) dX12_safe_134 rfl ?_
        exact V_weak (by repeat (first | exact wk_n | refine wk_c (Or.inr rfl) ?_ | refine wk_c (Or.inl rfl) ?_)) (next _ (by rw [b117]; rfl) f131 g131 (hf1.tr kf) (hg1.tr kg))
  · rw [show 10 - i = 0 by omega] at hR
    simp only [sfR] at hR
    subst hR
    have hq := hQ f g hf hg
    refine V_il7 dX12_safe_58 ?_
    refine V_bipush dX12_safe_60 rfl ?_
    refine V_icmp_ge (tgt := 165) dX12_safe_62 rfl (by first | assumption | (unfold ri at *; omega)) (by first | assumption | (unfold ri at *; omega)) (fun b62 => ?_) (fun b62 => ?_)
    · refine V_il5 dX12_safe_165 ?_
      refine V_if_ge (tgt := 175) dX12_safe_167 rfl (by first | assumption | (unfold ri at *; omega)) (fun b167 => ?_) (fun b167 => ?_)
      · refine V_il4 dX12_safe_175 ?_
        refine V_if_ne (tgt := 185) dX12_safe_177 rfl (by first | assumption | (unfold ri at *; omega)) (fun b177 => ?_) (fun b177 => ?_)
        · refine V_il6 dX12_safe_185 ?_
          exact V_ireturn rfl (by first | (rw [if_pos (by omega)] at hq; exact hq) | (rw [if_neg (by omega), if_pos (by omega)] at hq; exact hq) | (rw [if_neg (by omega), if_neg (by omega)] at hq; exact hq)) dX12_safe_187
        · refine V_il5 dX12_safe_180 ?_
          refine V_goto (tgt := 187) dX12_safe_182 rfl ?_
          exact V_ireturn rfl (by first | (rw [if_pos (by omega)] at hq; exact hq) | (rw [if_neg (by omega), if_pos (by omega)] at hq; exact hq) | (rw [if_neg (by omega), if_neg (by omega)] at hq; exact hq)) dX12_safe_187
      · refine V_bipush dX12_safe_170 rfl ?_
        refine V_goto (tgt := 187) dX12_safe_172 rfl ?_
        exact V_ireturn rfl (by first | (rw [if_pos (by omega)] at hq; exact hq) | (rw [if_neg (by omega), if_pos (by omega)] at hq; exact hq) | (rw [if_neg (by omega), if_neg (by omega)] at hq; exact hq)) dX12_safe_187
    · exfalso; omega
termination_by 10 - i
def aSafe (T : TT) (ra : Bool) (sk m h fr w : Int) : Int := if (okM T m && okH T h && zin fr 1 (T 113 m.toNat) && zin w 0 1) = true then (if (sfR T ra sk m.toNat h.toNat fr 9 1 (-2, 99999)).1 < 0 then -2 else if w = 0 then (sfR T ra sk m.toNat h.toNat fr 9 1 (-2, 99999)).1 else (sfR T ra sk m.toNat h.toNat fr 9 1 (-2, 99999)).2) else -1
theorem c_msafe {T : TT} {ρ : RT} {f : IT} {g : JT} (hρ : Fx ρ) (hT : MT T f) (hk : TOK T) {sk : Int} {ra : Bool} (hs : f 104 67 = sk) (hsk : 0 ≤ sk ∧ sk ≤ 30) (hr : f 104 68 = bz ra) {m h fr w : Int} (rm : ri m) (rh : ri h) (rfr : ri fr) (rw_ : ri w) :
    C_X12_safe [.ref 104, .int (iz m), .int (iz h), .int (iz fr), .int (iz w)] ρ f g (fun r ρ' f' g' => r = some (.int (iz (aSafe T ra sk m h fr w))) ∧ ρ' = ρ ∧ KM f f' ∧ KM g g') := by
  have h5 := hk.me
  have h3 := hk.ho
  have hT1 : MT T (u2 f 104 2 0) := hT.km (KM.u2 rfl KM.rf)
  refine Ct.ofV (by decide) rfl (Nat.le_of_ble_eq_true rfl) ?_
  refine V_al0n dX12_safe_0 ?_
  refine V_iconst dX12_safe_1 ?_
  refine V_putI kk104 (by decide) fl_X12_154 rfl dX12_safe_2 ?_
  refine V_al0n dX12_safe_5 ?_
  refine V_il1n dX12_safe_6 ?_
  refine V_callV (as := [_]) ml_X12_462 im_X12_isMan se_X12_isMan kk104 (by decide) (by decide) dX12_safe_7 rfl rfl (by decide) (by decide) (Nat.le_of_ble_eq_true rfl) (by decide) (by decide) rfl (c_isMan rm ((hT1 104 13 rfl).trans h5.1) (by unfold ri; omega)) ?_
  refine pq4 ?_
  refine V_bt (tgt := 45) dX12_safe_10 rfl (fun b10 => ?_) (fun b10 => ?_)
  · refine V_iconst dX12_safe_45 ?_
    exact V_ireturn rfl ⟨by unfold aSafe okM okH; simp only [*]; first | (simp; done) | (simp only [Int.toNat_natCast, b32]; simp; done) | simp [*], rfl, KM.u2 rfl KM.rf, KM.rf⟩ dX12_safe_46
  · have c1 := b10
    simp only [decide_eq_true_eq] at c1
    obtain ⟨mN, rfl⟩ : ∃ n : Nat, m = n := ⟨m.toNat, by omega⟩
    have hma := hk.man (k := mN) (by omega)
    refine V_al0n dX12_safe_13 ?_
    refine V_il2n dX12_safe_14 ?_
    refine V_callV (as := [_]) ml_X12_514 im_X12_isHold se_X12_isHold kk104 (by decide) (by decide) dX12_safe_15 rfl rfl (by decide) (by decide) (Nat.le_of_ble_eq_true rfl) (by decide) (by decide) rfl (c_isHold rh ((hT1 104 14 rfl).trans h3.1) (by unfold ri; omega)) ?_
    refine pq4 ?_
    refine V_bt (tgt := 45) dX12_safe_18 rfl (fun b18 => ?_) (fun b18 => ?_)
    · refine V_iconst dX12_safe_45 ?_
      exact V_ireturn rfl ⟨by unfold aSafe okM okH; simp only [*]; first | (simp; done) | (simp only [Int.toNat_natCast, b32]; simp; done) | simp [*], rfl, KM.u2 rfl KM.rf, KM.rf⟩ dX12_safe_46
    · refine V_il3n dX12_safe_21 ?_
      refine V_iconst dX12_safe_22 ?_
      refine V_al0n dX12_safe_23 ?_
      refine V_getR kk104 (by decide) fl_X12_39 (fx_104_36 hρ) dX12_safe_24 ?_
      refine V_il1n dX12_safe_27 ?_
      refine V_iald (k := mN) kk113 (by decide) (by first | rfl | omega) (by omega) (by first | decide | assumption | omega) (hT1.at rfl (by omega : mN < 5)) dX12_safe_28 ?_
      refine V_callS (as := [_, _, _]) ml_X12_199 sm_X12_isIn dX12_safe_29 rfl rfl (by decide) (by decide) (Nat.le_of_ble_eq_true rfl) (by decide) (by decide) rfl (c_isIn rfr (by unfold ri; omega) (by unfold ri; omega)) ?_
      refine pq4 ?_
      refine V_bt (tgt := 45) dX12_safe_32 rfl (fun b32 => ?_) (fun b32 => ?_)
      · refine V_iconst dX12_safe_45 ?_
        exact V_ireturn rfl ⟨by unfold aSafe okM okH; simp only [*]; first | (simp; done) | (simp only [Int.toNat_natCast, b32]; simp; done) | simp [*], rfl, KM.u2 rfl KM.rf, KM.rf⟩ dX12_safe_46
      · refine V_il4 dX12_safe_35 ?_
        refine V_iconst dX12_safe_37 ?_
        refine V_iconst dX12_safe_38 ?_
        refine V_callS (as := [_, _, _]) ml_X12_199 sm_X12_isIn dX12_safe_39 rfl rfl (by decide) (by decide) (Nat.le_of_ble_eq_true rfl) (by decide) (by decide) rfl (c_isIn rw_ (by unfold ri; omega) (by unfold ri; omega)) ?_
        refine pq4 ?_
        refine V_bf (tgt := 47) dX12_safe_42 rfl (fun b42 => ?_) (fun b42 => ?_)
        · have c2 := b18
          have c3 := b32
          unfold zin at c3
          simp only [decide_eq_true_eq] at c2 c3
          obtain ⟨hN, rfl⟩ : ∃ n : Nat, h = n := ⟨h.toNat, by omega⟩
          have ea : aSafe T ra sk (mN : Int) (hN : Int) fr w = (if (sfR T ra sk mN hN fr 9 1 (-2, 99999)).1 < 0 then -2 else if w = 0 then (sfR T ra sk mN hN fr 9 1 (-2, 99999)).1 else (sfR T ra sk mN hN fr 9 1 (-2, 99999)).2) := by unfold aSafe okM okH; simp only [Int.toNat_natCast, b10, b18, b32, b42]; simp
          refine V_bipush dX12_safe_47 rfl ?_
          refine V_is5 dX12_safe_49 (by decide) rfl ?_
          refine V_ldc (a := 99999) kc_X12_192 rfl dX12_safe_51 ?_
          refine V_is6 dX12_safe_53 (by decide) rfl ?_
          refine V_iconst dX12_safe_55 ?_
          refine V_is7 dX12_safe_56 (by decide) rfl ?_
          exact w_safe hρ hk (f0 := u2 f 104 2 0) (g0 := g) (ra := ra) (u2_n (by omega) hs) hsk (u2_n (by omega) hr) (m := mN) (h := hN) (by omega) (by omega) c3 rw_ hT1 (R := sfR T ra sk mN hN fr 9 1 (-2, 99999)) (fun f' g' a1 a2 => ⟨by rw [ea], rfl, (KM.u2 (x := 0) rfl KM.rf).tr a1.km, a2.km⟩) 1 (by omega) (-2, 99999) (by simp) (by simp) _ _ KW.rf KG.rf rfl
        · refine V_iconst dX12_safe_45 ?_
          exact V_ireturn rfl ⟨by unfold aSafe okM okH; simp only [*]; first | (simp; done) | (simp only [Int.toNat_natCast, b32]; simp; done) | simp [*], rfl, KM.u2 rfl KM.rf, KM.rf⟩ dX12_safe_46

