section CISFIT
variable {T : TT} {b : Nat} {ρ : RT} {φ : IT}
/-- a stretch of a plan as far as it is due -/
def okD (T : TT) (c : CC) (s : SS) (f : IT) (p k : Nat) : Prop := (rn T c (T 117 (T 121 p).toNat) (pce T p) (k + 1) s).2.2.1 ≠ 0 ∧ (f 78 (p * 6 + k) = -1 ∨ f 78 (p * 6 + k) = (rn T c (T 117 (T 121 p).toNat) (pce T p) (k + 1) s).1)
theorem so_true (hN : NTK T φ) (hk : TOK T) {ra : Bool} {sk : Int} {m : Nat} {w l : Int} {f : IT} (hD : DU (ntA φ m) (ntP φ) (ntS φ) (ntV φ) (kB φ) false f) (h : ∀ p k : Nat, p < 5 → (k : Int) ≤ f 79 p → okD T (false, ra, sk, T 115 m, w) (0, w, l, 0) f p k) : soB T ra sk m (φ 142) (cRun (φ 142) (kB φ) (fun _ => true)) (kB φ) w l = true := by
  have h5p := hk.pl
  have h6 := hk.la
  unfold soB
  simp only [decide_eq_true_eq]
  intro i hi c1 c2
  have ha : ntA φ m i = true := by unfold ntA; rw [c1, decide_eq_true c2]; rfl
  obtain ⟨r1, r2, r3⟩ := nt_rng hN hi ha
  obtain ⟨p, hp⟩ : ∃ p : Nat, ntP φ i = (p : Int) := ⟨(ntP φ i).toNat, by omega⟩
  obtain ⟨k, hk1⟩ : ∃ k : Nat, ntS φ i = (k : Int) := ⟨(ntS φ i).toNat, by omega⟩
  have h79 : ntS φ i ≤ f 79 p := by
    rcases hD.2.1 p (by omega) with q | ⟨-, q⟩
    · exact absurd (q.2 i hi ha hp) id
    · exact q i hi ha hp
  have hd := hD.2.2.2.1 rfl i hi ha p k (by omega) (by omega) hp hk1
  obtain ⟨o1, o2⟩ := h p k (by omega) (by omega)
  unfold soI fitR
  have e1 : (φ 142 (4 * i + 1)).toNat = p := by have : φ 142 (4 * i + 1) = (p : Int) := hp; omega
  have e2 : (φ 142 (4 * i + 2)).toNat = k := by have : φ 142 (4 * i + 2) = (k : Int) := hk1; omega
  rw [e1, e2]
  simp only [decide_eq_true_eq]
  refine ⟨o1, ?_⟩
  rcases o2 with q | q
  · omega
  · rw [← q, hd]
theorem so_false (hN : NTK T φ) (hk : TOK T) {ra : Bool} {sk : Int} {m : Nat} {w l : Int} {f : IT} (hD : DU (ntA φ m) (ntP φ) (ntS φ) (ntV φ) (kB φ) false f) {p k : Nat} (hp : p < 5) (hk6 : k < 6) (h79 : (k : Int) ≤ f 79 p) (h : ¬ okD T (false, ra, sk, T 115 m, w) (0, w, l, 0) f p k) : soB T ra sk m (φ 142) (cRun (φ 142) (kB φ) (fun _ => true)) (kB φ) w l = false := by
  have h5p := hk.pl
  have h6 := hk.la
  have fin : ∀ i, i < kB φ → ntA φ m i = true → soI T ra sk m (φ 142) w l i = false → soB T ra sk m (φ 142) (cRun (φ 142) (kB φ) (fun _ => true)) (kB φ) w l = false := fun i hi ha hs => by
    unfold soB
    simp only [decide_eq_false_iff_not]
    intro hall
    unfold ntA at ha
    simp only [Bool.and_eq_true, decide_eq_true_eq] at ha
    have := hall i hi ha.1 ha.2
    rw [hs] at this
    cases this
  have sof : ∀ i k1 : Nat, ntP φ i = (p : Int) → ntS φ i = (k1 : Int) → ¬ ((rn T (false, ra, sk, T 115 m, w) (T 117 (T 121 p).toNat) (pce T p) (k1 + 1) (0, w, l, 0)).2.2.1 ≠ 0 ∧ (rn T (false, ra, sk, T 115 m, w) (T 117 (T 121 p).toNat) (pce T p) (k1 + 1) (0, w, l, 0)).1 = ntV φ i) → soI T ra sk m (φ 142) w l i = false := fun i k1 e1 e2 hn => by
    unfold soI fitR
    have z1 : (φ 142 (4 * i + 1)).toNat = p := by have : φ 142 (4 * i + 1) = (p : Int) := e1; omega
    have z2 : (φ 142 (4 * i + 2)).toNat = k1 := by have : φ 142 (4 * i + 2) = (k1 : Int) := e2; omega
    rw [z1, z2]
    simp only [decide_eq_false_iff_not]
    exact hn
  unfold okD at h
  by_cases c : (rn T (false, ra, sk, T 115 m, w) (T 117 (T 121 p).toNat) (pce T p) (k + 1) (0, w, l, 0)).2.2.1 = 0
  · rcases hD.2.1 p hp with q | ⟨⟨i, q1, q2, q3, q4⟩, -⟩
    · omega
    · obtain ⟨k1, hk1⟩ : ∃ k1 : Nat, ntS φ i = (k1 : Int) := ⟨(ntS φ i).toNat, by omega⟩
      have ho := rn_out c (k1 + 1) (by omega)
      exact fin i q1 q2 (sof i k1 q3 hk1 (fun z => z.1 (by rw [ho]; exact c)))
  · rcases hD.1 p k hp hk6 with q | ⟨i, q1, q2, q3, q4, q5⟩
    · exact absurd ⟨c, Or.inl q.1⟩ h
    · exact fin i q1 q2 (sof i k q3 q4 (fun z => h ⟨c, Or.inr (by rw [q5, z.2])⟩))
theorem so_odd (hN : NTK T φ) {ra : Bool} {sk : Int} {m : Nat} {f : IT} (hD : DU (ntA φ m) (ntP φ) (ntS φ) (ntV φ) (kB φ) true f) (w l : Int) : soB T ra sk m (φ 142) (cRun (φ 142) (kB φ) (fun _ => true)) (kB φ) w l = false := by
  obtain ⟨i, i', h1, h2, h3, h4, h5, h6, h7⟩ := hD.2.2.2.2 rfl
  unfold ntA at h3 h4
  simp only [Bool.and_eq_true, decide_eq_true_eq] at h3 h4
  unfold soB
  simp only [decide_eq_false_iff_not]
  intro hall
  have a1 := hall i h1 h3.1 h3.2
  have a2 := hall i' h2 h4.1 h4.2
  have z1 : φ 142 (4 * i + 1) = φ 142 (4 * i' + 1) := h5
  have z2 : φ 142 (4 * i + 2) = φ 142 (4 * i' + 2) := h6
  unfold soI at a1 a2
  simp only [decide_eq_true_eq] at a1 a2
  rw [z1, z2] at a1
  exact h7 (a1.2.symm.trans a2.2)
section ISF
variable {ra : Bool} {sk : Int} {m : Nat} {w l : Int} {f0 : IT} {g0 : JT} {Q : QT}
theorem w_isfit56 (hW : TW T b ρ) (hN : NTK T φ) (hsk : 0 ≤ sk ∧ sk ≤ 30) (hm : m < nMe T) (hw : 1 ≤ w ∧ w ≤ 60) (hl : 1 ≤ l ∧ l ≤ 40) (hD : DU (ntA φ m) (ntP φ) (ntS φ) (ntV φ) (kB φ) false f0) (hE0 : GE T (c0 T ra sk m) f0) {p : Nat} (hp : p < nPl T) {L : Nat} (hL : f0 79 p = (L : Int)) (hL6 : L < nLa T)
    (hQ0 : soB T ra sk m (φ 142) (cRun (φ 142) (kB φ) (fun _ => true)) (kB φ) w l = false → ∀ (f : IT) (g : JT), CT T b f → GI T false ra f g → WLk b f0 g0 f g → Q (some (.int (iz 0))) ρ f g)
    (hX : (∀ k : Nat, k ≤ L → okD T (false, ra, sk, T 115 m, w) (0, w, l, 0) f0 p k) → ∀ (f : IT) (g : JT), CT T b f → GI T false ra f g → WLk b f0 g0 f g → V_X5_isFit Q 138 [.ref 73, .ref 55, .ref 65, .int (iz w), .int (iz l), .ref b, .int (iz (p : Int)), .null, .null] [] ρ f g)
    (i : Nat) (hi : i ≤ L + 1) (f : IT) (g : JT) (hC : CT T b f) (hG : GI T false ra f g) (hK : WLk b f0 g0 f g) (hWS : WS 65 (false, ra, sk, T 115 m, w) (T 117 (T 121 p).toNat) (rn T (false, ra, sk, T 115 m, w) (T 117 (T 121 p).toNat) (pce T p) i (0, w, l, 0)) f) (hbs : ∀ k, k < i → okD T (false, ra, sk, T 115 m, w) (0, w, l, 0) f0 p k) :
    V_X5_isFit Q 56 [.ref 73, .ref 55, .ref 65, .int (iz w), .int (iz l), .ref b, .int (iz (p : Int)), .int (iz (i : Int)), .null] [] ρ f g := by
  have hk := hW.2.2.2.2.1
  have hρ := hW.1
  have hb := hW.2.1
  have h6 := hk.la
  have h5p := hk.pl
  have h3 := hk.ho
  have hma := hk.man hm
  have hpl := hk.plan hp
  have e79 : f 79 p = (L : Int) := (hK.1 79 p (by omega) (by omega)).trans hL
  have hcr : CR (false, ra, sk, T 115 m, w) := by unfold CR; simp only; omega
  have hsr : SR (0, w, l, 0) := by unfold SR; simp only; omega
  by_cases e : i = L + 1
  · subst e
    refine V_il7 dX5_isFit_56 ?_
    refine V_al0n dX5_isFit_58 ?_
    refine V_getR kk73 (by decide) fl_X5_35 (fx_73_7 hρ) dX5_isFit_59 ?_
    refine V_il6 dX5_isFit_62 ?_
    refine V_iald (k := p) kk79 (by decide) (by first | rfl | omega) (by omega) (by first | decide | assumption | omega) e79 dX5_isFit_64 ?_
    refine V_icmp_gt (tgt := 138) dX5_isFit_65 rfl (by unfold ri; omega) (by unfold ri; omega) (fun b65 => ?_) (fun b65 => ?_)
    · exact V_weak (by repeat (first | exact wk_n | refine wk_c (Or.inr rfl) ?_ | refine wk_c (Or.inl rfl) ?_)) (hX (fun k hk => hbs k (by omega)) f g hC hG hK)
    · exfalso; omega
  · have hh : (T 121 p).toNat < nHo T := by omega
    have hpc : ∀ k, 1 ≤ pce T p k ∧ pce T p k ≤ 9 := fun k => pce_rng hk hp
    have hr := rn_rng hk hcr hh hpc hsr i (by omega)
    have hr4 := rn_leg hk hcr hh hpc hsr i (by omega)
    have hr1 := rn_rng hk hcr hh hpc hsr (i + 1) (by omega)
    simp only at hr4 hr1
    have hln := hk.lane (k := i) (by omega)
    have t0 := tat0 hk (i := i) (j := 0) (by omega) (by omega)
    simp [tcl] at t0
    have e56 : f 56 i = T 108 i := ((hG.2.2.2.2.2.1 i (by omega)).1).trans t0
    obtain ⟨nst, hnst⟩ : ∃ n : Nat, T 108 i = (n : Int) := ⟨(T 108 i).toNat, by omega⟩
    have hGE : GE T (false, ra, sk, T 115 m, w) f := GE.cg (c := (false, ra, sk, T 115 m, w)) hE0 (fun k => hK.1 55 k (by omega) (by omega))
    have htr := c_tread (g := g) hρ hW.2.2.2.1 hb hk hW.2.2.2.2.2 (w := 65) rfl (by omega) hcr (k := i) (by omega) hh (hpc i) (n := nst) (by omega) hC hG hGE hWS hr.1 (by omega)
    have ern : thr T (false, ra, sk, T 115 m, w) i (T 117 (T 121 p).toNat) (pce T p i) nst (rn T (false, ra, sk, T 115 m, w) (T 117 (T 121 p).toNat) (pce T p) i (0, w, l, 0)) = rn T (false, ra, sk, T 115 m, w) (T 117 (T 121 p).toNat) (pce T p) (i + 1) (0, w, l, 0) := by
      rw [rn, hnst, Int.toNat_natCast]
    rw [ern] at htr
    have t3 := tat3 hk hp (k := i) (by omega)
    have hat := c_at (f := f) (g := g) hρ hb hC hk (i := 3) (by omega) (k := (p : Int)) (j := 1 + (i : Int)) (by unfold ri; omega) (by unfold ri; omega)
    rw [t3] at hat
    have hrs : ∀ j, j < kB φ → ntA φ m j = true → (0 ≤ ntS φ j ∧ ntS φ j < 6) ∧ 0 ≤ ntV φ j ∧ ntV φ j ≤ 99999 := fun j hj ha => by
      have := nt_rng hN hj ha
      exact ⟨by omega, this.2.2⟩
    have hdr := DU.ri hD (p := p) (k := i) (by omega) (by omega) hrs
    have hok : ∀ f' : IT, WLk b f0 g0 f' g → True := fun _ _ => trivial
    have hcell : p * 6 + i < 30 := by omega
    have hei : (p : Int) * 6 + (i : Int) = ((p * 6 + i : Nat) : Int) := by omega
    have hodef : okD T (false, ra, sk, T 115 m, w) (0, w, l, 0) f0 p i ↔ ((rn T (false, ra, sk, T 115 m, w) (T 117 (T 121 p).toNat) (pce T p) (i + 1) (0, w, l, 0)).2.2.1 ≠ 0 ∧ (f0 78 (p * 6 + i) = -1 ∨ f0 78 (p * 6 + i) = (rn T (false, ra, sk, T 115 m, w) (T 117 (T 121 p).toNat) (pce T p) (i + 1) (0, w, l, 0)).1)) := Iff.rfl
    have hno : ¬ okD T (false, ra, sk, T 115 m, w) (0, w, l, 0) f0 p i → soB T ra sk m (φ 142) (cRun (φ 142) (kB φ) (fun _ => true)) (kB φ) w l = false := fun z => so_false hN hk hD (by omega) (by omega) (by omega) z
    have nx : okD T (false, ra, sk, T 115 m, w) (0, w, l, 0) f0 p i → ∀ (f' : IT) (g' : JT), CT T b f' → GI T false ra f' g' → WLk b f0 g0 f' g' → WS 65 (false, ra, sk, T 115 m, w) (T 117 (T 121 p).toNat) (rn T (false, ra, sk, T 115 m, w) (T 117 (T 121 p).toNat) (pce T p) (i + 1) (0, w, l, 0)) f' → V_X5_isFit Q 56 [.ref 73, .ref 55, .ref 65, .int (iz w), .int (iz l), .ref b, .int (iz (p : Int)), .int (iz ((i : Int) + 1)), .null] [] ρ f' g' := fun z f' g' a1 a2 a3 a4 => w_isfit56 hW hN hsk hm hw hl hD hE0 hp hL hL6 hQ0 hX (i + 1) (by omega) f' g' a1 a2 a3 a4 (fun k hk => by
      by_cases ek : k = i
      · rw [ek]; exact z
      · exact hbs k (by omega))
    generalize rn T (false, ra, sk, T 115 m, w) (T 117 (T 121 p).toNat) (pce T p) (i + 1) (0, w, l, 0) = R at *
    refine V_il7 dX5_isFit_56 ?_
    refine V_al0n dX5_isFit_58 ?_
    refine V_getR kk73 (by decide) fl_X5_35 (fx_73_7 hρ) dX5_isFit_59 ?_
    refine V_il6 dX5_isFit_62 ?_
    refine V_iald (k := p) kk79 (by decide) (by first | rfl | omega) (by omega) (by first | decide | assumption | omega) e79 dX5_isFit_64 ?_
    refine V_icmp_gt (tgt := 138) dX5_isFit_65 rfl (by unfold ri; omega) (by unfold ri; omega) (fun b65 => ?_) (fun b65 => ?_)
    · exfalso; omega
    · refine V_al2n dX5_isFit_68 ?_
      refine V_al1n dX5_isFit_69 ?_
      refine V_il7 dX5_isFit_70 ?_
      refine V_al5 dX5_isFit_72 ?_
      refine V_iconst dX5_isFit_74 ?_
      refine V_il6 dX5_isFit_75 ?_
      refine V_iconst dX5_isFit_77 ?_
      refine V_il7 dX5_isFit_78 ?_
      refine V_iadd dX5_isFit_80 ?_
      refine V_callV (as := [_, _, _]) ml_X5_94 im_X7_at se_X7_at (kb_0 hb) (by decide) (kl_0 hb) dX5_isFit_81 rfl rfl (by decide) (by decide) (Nat.le_of_ble_eq_true rfl) (by decide) (by decide) rfl (hat) ?_
      refine pq4 ?_
      refine V_al1n dX5_isFit_84 ?_
      refine V_il7 dX5_isFit_85 ?_
      refine V_callV (as := [_]) ml_X5_106 im_X0_stepsOf se_X0_stepsOf kk55 (by decide) (by decide) dX5_isFit_87 rfl rfl (by decide) (by decide) (Nat.le_of_ble_eq_true rfl) (by decide) (by decide) rfl (c_stepsOf (g := g) hρ (k := i) (by omega) (e56.trans hnst)) ?_
      refine pq4 ?_
      refine V_callV (as := [_, _, _, _]) ml_X5_110 im_X10_tread se_X10_tread kk65 (by decide) (by decide) dX5_isFit_90 rfl rfl (by decide) (by decide) (Nat.le_of_ble_eq_true rfl) (by decide) (by decide) rfl (htr) ?_
      rintro r90 ρ90 f90 g90 ⟨rfl, s90_0, q1, q2, q3, q4⟩
      obtain rfl := s90_0.symm
      have hK2 : WLk b f0 g0 f90 g90 := hK.tr ⟨fun a k z1 z2 => q3.1 a k z1 (by omega), q3.2⟩
      have e78 : f90 78 (p * 6 + i) = f0 78 (p * 6 + i) := hK2.1 78 _ (by omega) (by omega)
      have q40 := q4
      obtain ⟨u6, u4, u9, u7, u8⟩ := q4
      have hR2 := hr1.1.2
      have ho := c_isOut (w := 65) (ρ := ρ) (f := f90) (g := g90) rfl (by rw [u8]; unfold ri; omega)
      rw [u8] at ho
      refine V_al0n dX5_isFit_93 ?_
      refine V_getR kk73 (by decide) fl_X5_32 (fx_73_6 hρ) dX5_isFit_94 ?_
      refine V_il6 dX5_isFit_97 ?_
      refine V_bipush dX5_isFit_99 rfl ?_
      refine V_imul dX5_isFit_101 ?_
      refine V_il7 dX5_isFit_102 ?_
      refine V_iadd dX5_isFit_104 ?_
      refine V_iald (k := (p * 6 + i)) kk78 (by decide) hei (by omega) (by first | decide | assumption | omega) e78 dX5_isFit_105 ?_
      refine V_is8 dX5_isFit_106 (by decide) rfl ?_
      refine V_al2n dX5_isFit_108 ?_
      refine V_callV (as := []) ml_X5_114 im_X10_isOut se_X10_isOut kk65 (by decide) (by decide) dX5_isFit_109 rfl rfl (by decide) (by decide) (Nat.le_of_ble_eq_true rfl) (by decide) (by decide) rfl (ho) ?_
      refine pq4 ?_
      refine V_bf (tgt := 130) dX5_isFit_112 rfl (fun b112 => ?_) (fun b112 => ?_)
      · refine V_iconst dX5_isFit_130 ?_
        exact V_zreturn rfl (by first | exact Or.inl rfl | exact Or.inr rfl | (unfold bz; split <;> simp)) (hQ0 (hno (fun z => by have z := hodef.mp z; first | (simp at b112; omega) | omega)) _ _ q1 q2 hK2) dX5_isFit_131
      · refine V_il8 dX5_isFit_115 ?_
        refine V_iconst dX5_isFit_117 ?_
        refine V_icmp_eq (tgt := 132) dX5_isFit_118 rfl (by unfold ri; omega) (by unfold ri; omega) (fun b118 => ?_) (fun b118 => ?_)
        · refine V_inc7 dX5_isFit_132 (by decide) rfl ?_
          refine V_goto (tgt := 56) dX5_isFit_135 rfl ?_
          exact V_weak (by repeat (first | exact wk_n | refine wk_c (Or.inr rfl) ?_ | refine wk_c (Or.inl rfl) ?_)) (nx (hodef.mpr ⟨by simp at b112; omega, by omega⟩) _ _ q1 q2 hK2 q40)
        · refine V_il8 dX5_isFit_121 ?_
          refine V_al2n dX5_isFit_123 ?_
          refine V_getI kk65 (by decide) fl_X5_118 u9 dX5_isFit_124 ?_
          refine V_icmp_eq (tgt := 132) dX5_isFit_127 rfl (by unfold ri; omega) (by unfold ri; omega) (fun b127 => ?_) (fun b127 => ?_)
          · refine V_inc7 dX5_isFit_132 (by decide) rfl ?_
            refine V_goto (tgt := 56) dX5_isFit_135 rfl ?_
            exact V_weak (by repeat (first | exact wk_n | refine wk_c (Or.inr rfl) ?_ | refine wk_c (Or.inl rfl) ?_)) (nx (hodef.mpr ⟨by simp at b112; omega, by omega⟩) _ _ q1 q2 hK2 q40)
          · refine V_iconst dX5_isFit_130 ?_
            exact V_zreturn rfl (by first | exact Or.inl rfl | exact Or.inr rfl | (unfold bz; split <;> simp)) (hQ0 (hno (fun z => by have z := hodef.mp z; first | (simp at b112; omega) | omega)) _ _ q1 q2 hK2) dX5_isFit_131
termination_by L + 1 - i
theorem w_isfit9 (hW : TW T b ρ) (hN : NTK T φ) (hsk : 0 ≤ sk ∧ sk ≤ 30) (hm : m < nMe T) (hw : 1 ≤ w ∧ w ≤ 60) (hl : 1 ≤ l ∧ l ≤ 40) (hD : DU (ntA φ m) (ntP φ) (ntS φ) (ntV φ) (kB φ) false f0) (hE0 : GE T (c0 T ra sk m) f0)
    (hQ : ∀ (f : IT) (g : JT), CT T b f → GI T false ra f g → WLk b f0 g0 f g → Q (some (.int (iz (bz (soB T ra sk m (φ 142) (cRun (φ 142) (kB φ) (fun _ => true)) (kB φ) w l))))) ρ f g)
    (p : Nat) (hp : p ≤ 5) (f : IT) (g : JT) (hC : CT T b f) (hG : GI T false ra f g) (hK : WLk b f0 g0 f g) (hbs : ∀ p' k : Nat, p' < p → (k : Int) ≤ f0 79 p' → okD T (false, ra, sk, T 115 m, w) (0, w, l, 0) f0 p' k) :
    V_X5_isFit Q 9 [.ref 73, .ref 55, .ref 65, .int (iz w), .int (iz l), .ref b, .int (iz (p : Int)), .null, .null] [] ρ f g := by
  have hk := hW.2.2.2.2.1
  have hρ := hW.1
  have hb := hW.2.1
  have h6 := hk.la
  have h5p := hk.pl
  have h3 := hk.ho
  have hma := hk.man hm
  by_cases e : p = 5
  · subst e
    have hq := hQ f g hC hG hK
    rw [so_true hN hk hD (fun p' k h1 h2 => hbs p' k h1 h2)] at hq
    refine V_il6 dX5_isFit_9 ?_
    refine V_iconst dX5_isFit_11 ?_
    refine V_icmp_ge (tgt := 144) dX5_isFit_12 rfl (by unfold ri; omega) (by unfold ri; omega) (fun b12 => ?_) (fun b12 => ?_)
    · refine V_iconst dX5_isFit_144 ?_
      exact V_zreturn rfl (by first | exact Or.inl rfl | exact Or.inr rfl | (unfold bz; split <;> simp)) hq dX5_isFit_145
    · exfalso; omega
  · have hrs : ∀ j, j < kB φ → ntA φ m j = true → (0 ≤ ntS φ j ∧ ntS φ j < 6) ∧ 0 ≤ ntV φ j ∧ ntV φ j ≤ 99999 := fun j hj ha => by
      have := nt_rng hN hj ha
      exact ⟨by omega, this.2.2⟩
    have hdr := DU.ri hD (p := p) (k := 0) (by omega) (by omega) hrs
    have e79 : f 79 p = f0 79 p := hK.1 79 p (by omega) (by omega)
    have nx : (∀ k : Nat, (k : Int) ≤ f0 79 p → okD T (false, ra, sk, T 115 m, w) (0, w, l, 0) f0 p k) → ∀ (f : IT) (g : JT), CT T b f → GI T false ra f g → WLk b f0 g0 f g → V_X5_isFit Q 9 [.ref 73, .ref 55, .ref 65, .int (iz w), .int (iz l), .ref b, .int (iz ((p : Int) + 1)), .null, .null] [] ρ f g := fun z f g a1 a2 a3 => w_isfit9 hW hN hsk hm hw hl hD hE0 hQ (p + 1) (by omega) f g a1 a2 a3 (fun p' k h1 h2 => by
      by_cases ep : p' = p
      · rw [ep] at h2 ⊢; exact z k h2
      · exact hbs p' k (by omega) h2)
    by_cases c : f0 79 p = -1
    · refine V_il6 dX5_isFit_9 ?_
      refine V_iconst dX5_isFit_11 ?_
      refine V_icmp_ge (tgt := 144) dX5_isFit_12 rfl (by unfold ri; omega) (by unfold ri; omega) (fun b12 => ?_) (fun b12 => ?_)
      · exfalso; omega
      · refine V_al0n dX5_isFit_15 ?_
        refine V_getR kk73 (by decide) fl_X5_35 (fx_73_7 hρ) dX5_isFit_16 ?_
        refine V_il6 dX5_isFit_19 ?_
        refine V_iald (k := p) kk79 (by decide) (by first | rfl | omega) (by omega) (by first | decide | assumption | omega) e79 dX5_isFit_21 ?_
        refine V_iconst dX5_isFit_22 ?_
        refine V_icmp_ne (tgt := 29) dX5_isFit_23 rfl (by unfold ri; omega) (by unfold ri; omega) (fun b23 => ?_) (fun b23 => ?_)
        · exfalso; omega
        · refine V_goto (tgt := 138) dX5_isFit_26 rfl ?_
          refine V_inc6 dX5_isFit_138 (by decide) rfl ?_
          refine V_goto (tgt := 9) dX5_isFit_141 rfl ?_
          exact nx (fun k hk => by omega) f g hC hG hK
    · obtain ⟨L, hL⟩ : ∃ L : Nat, f0 79 p = (L : Int) := ⟨(f0 79 p).toNat, by omega⟩
      have hpL : p < nPl T ∧ L < nLa T := by
        rcases hD.2.1 p (by omega) with q | ⟨⟨i, q1, q2, q3, q4⟩, -⟩
        · omega
        · have := nt_rng hN q1 q2; omega
      have hpl := hk.plan hpL.1
      have t30 := tat30 hk hpL.1
      have t2 := tat2 hk (h := (T 121 p).toNat) (j := 0) (by omega) (by omega)
      simp [tcl] at t2
      have e121 : max (T 121 p) 0 = T 121 p := by omega
      have hat3 := c_at (f := f) (g := g) hρ hb hC hk (i := 3) (by omega) (k := (p : Int)) (j := 0) (by unfold ri; omega) (by unfold ri; omega)
      rw [t30] at hat3
      have hat2 := c_at (f := f) (g := g) hρ hb hC hk (i := 2) (by omega) (k := T 121 p) (j := 0) (by unfold ri; omega) (by unfold ri; omega)
      have t2' : tat T 2 (T 121 p) 0 = T 117 (T 121 p).toNat := by
        first
        | (rw [e121] at t2; exact t2)
        | exact t2
      rw [t2'] at hat2
      have so : ∀ a i, a ≠ 65 → stdF 65 w w l (T 117 (T 121 p).toNat) f a i = f a i := fun a i q1 => stdF_o (by omega)
      have hin := w_isfit56 (ρ := ρ) (Q := Q) (f0 := f0) (g0 := g0) hW hN hsk hm hw hl hD hE0 hpL.1 hL hpL.2 (fun z f g a1 a2 a3 => by have := hQ f g a1 a2 a3; rw [z] at this; exact this) (by
        intro z f1 g1 a1 a2 a3
        refine V_inc6 dX5_isFit_138 (by decide) rfl ?_
        refine V_goto (tgt := 9) dX5_isFit_141 rfl ?_
        exact nx (fun k hk => z k (by omega)) f1 g1 a1 a2 a3
        ) 0 (by omega) (stdF 65 w w l (T 117 (T 121 p).toNat) f) g (hC.cg hb (fun a i q1 q2 => so a i (by omega))) (hG.cg (fun a i q1 q2 => so a i (by omega)) rfl) (hK.tr ⟨fun a i z1 z2 => so a i z2, fun _ _ _ _ => rfl⟩) (stdF_ws (w := 65) (f := f) (c := (false, ra, sk, T 115 m, w)) (wi := w) (le := l) (hc := T 117 (T 121 p).toNat) (dn := 0)) (fun k hk => by omega)
      refine V_il6 dX5_isFit_9 ?_
      refine V_iconst dX5_isFit_11 ?_
      refine V_icmp_ge (tgt := 144) dX5_isFit_12 rfl (by unfold ri; omega) (by unfold ri; omega) (fun b12 => ?_) (fun b12 => ?_)
      · exfalso; omega
      · refine V_al0n dX5_isFit_15 ?_
        refine V_getR kk73 (by decide) fl_X5_35 (fx_73_7 hρ) dX5_isFit_16 ?_
        refine V_il6 dX5_isFit_19 ?_
        refine V_iald (k := p) kk79 (by decide) (by first | rfl | omega) (by omega) (by first | decide | assumption | omega) e79 dX5_isFit_21 ?_
        refine V_iconst dX5_isFit_22 ?_
        refine V_icmp_ne (tgt := 29) dX5_isFit_23 rfl (by unfold ri; omega) (by unfold ri; omega) (fun b23 => ?_) (fun b23 => ?_)
        · refine V_al2n dX5_isFit_29 ?_
          refine V_il3n dX5_isFit_30 ?_
          refine V_il3n dX5_isFit_31 ?_
          refine V_il4 dX5_isFit_32 ?_
          refine V_al5 dX5_isFit_34 ?_
          refine V_iconst dX5_isFit_36 ?_
          refine V_al5 dX5_isFit_37 ?_
          refine V_iconst dX5_isFit_39 ?_
          refine V_il6 dX5_isFit_40 ?_
          refine V_iconst dX5_isFit_42 ?_
          refine V_callV (as := [_, _, _]) ml_X5_94 im_X7_at se_X7_at (kb_0 hb) (by decide) (kl_0 hb) dX5_isFit_43 rfl rfl (by decide) (by decide) (Nat.le_of_ble_eq_true rfl) (by decide) (by decide) rfl (hat3) ?_
          refine pq4 ?_
          refine V_iconst dX5_isFit_46 ?_
          refine V_callV (as := [_, _, _]) ml_X5_94 im_X7_at se_X7_at (kb_0 hb) (by decide) (kl_0 hb) dX5_isFit_47 rfl rfl (by decide) (by decide) (Nat.le_of_ble_eq_true rfl) (by decide) (by decide) rfl (hat2) ?_
          refine pq4 ?_
          refine V_callV (as := [_, _, _, _]) ml_X5_100 im_X10_stand se_X10_stand kk65 (by decide) (by decide) dX5_isFit_50 rfl rfl (by decide) (by decide) (Nat.le_of_ble_eq_true rfl) (by decide) (by decide) rfl (c_stand (w := 65) rfl) ?_
          refine pq4 ?_
          refine V_iconst dX5_isFit_53 ?_
          refine V_is7 dX5_isFit_54 (by decide) rfl ?_
          exact hin
        · exfalso; omega
termination_by 5 - p
theorem c_isFit (hW : TW T b ρ) (hN : NTK T φ) (hsk : 0 ≤ sk ∧ sk ≤ 30) (hm : m < nMe T) (hw : 1 ≤ w ∧ w ≤ 60) (hl : 1 ≤ l ∧ l ≤ 40) (hD : DU (ntA φ m) (ntP φ) (ntS φ) (ntV φ) (kB φ) false f0) (hE0 : GE T (c0 T ra sk m) f0) (hC : CT T b f0) (hG : GI T false ra f0 g0) :
    C_X5_isFit [.ref 73, .ref 55, .ref 65, .int (iz w), .int (iz l)] ρ f0 g0 (fun r ρ' f' g' => r = some (.int (iz (bz (soB T ra sk m (φ 142) (cRun (φ 142) (kB φ) (fun _ => true)) (kB φ) w l)))) ∧ ρ' = ρ ∧ CT T b f' ∧ GI T false ra f' g' ∧ WLk b f0 g0 f' g') := by
  have hρ := hW.1
  have hb := hW.2.1
  refine Ct.ofV (by decide) rfl (Nat.le_of_ble_eq_true rfl) ?_
  refine V_al1n dX5_isFit_0 ?_
  refine V_getR kk55 (by decide) fl_X5_90 hW.2.2.2.1 dX5_isFit_1 ?_
  refine V_as5 dX5_isFit_4 (by decide) rfl ?_
  refine V_iconst dX5_isFit_6 ?_
  refine V_is6 dX5_isFit_7 (by decide) rfl ?_
  exact w_isfit9 hW hN hsk hm hw hl hD hE0 (fun f' g' a1 a2 a3 => ⟨rfl, rfl, a1, a2, a3⟩) 0 (by omega) f0 g0 hC hG WLk.rf (fun p' k h1 => by omega)
end ISF
end CISFIT

