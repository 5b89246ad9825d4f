/-- one drawing: who comes up first -/
def wink (T : TT) (ra : Bool) (sk : Int) (p : Nat) (some_ : Int) : Nat → Nat → Int × Int × Int → Int × Int × Int
  | 0, _, x => x
  | n + 1, k, x => wink T ra sk p some_ n (k + 1) (if some_ / 2 ^ k % 2 = 1 then (if tenR (rcS T ra sk k p x.2.2) < x.2.1 then ((k : Int), tenR (rcS T ra sk k p x.2.2), (rcS T ra sk k p x.2.2).2) else (x.1, x.2.1, (rcS T ra sk k p x.2.2).2)) else x)
def winR (T : TT) (ra : Bool) (sk : Int) (p : Nat) (some_ m : Int) : Nat → Int × Int → Int × Int
  | 0, x => x
  | n + 1, x => winR T ra sk p some_ m n (x.1 + bz (decide ((wink T ra sk p some_ (nMe T) 0 (-1, 99999, x.2)).1 = m)), (wink T ra sk p some_ (nMe T) 0 (-1, 99999, x.2)).2.2)
theorem w_winsIn {T : TT} {Q : QT} {ρ : RT} {f0 : IT} {g0 : JT} (hρ : Fx ρ) (hk : TOK T) {sk : Int} {ra : Bool} (hs : f0 104 67 = sk) (hsk : 0 ≤ sk ∧ sk ≤ 30) (hr : f0 104 68 = bz ra) {p : Nat} (hp : p < nPl T) {some_ sd d0 m4 n7 i8 : Int} (hso : ri some_) (hT0 : MT T f0) {R : Int × Int × Int}
    (hX : ∀ (f : IT) (g : JT), KM f0 f → KR g0 g → g 104 69 = R.2.2 → ri R.1 → V_X12_wins Q 139 [.ref 104, .int (iz sd), .int (iz some_), .int (iz (p : Int)), .int (iz m4), .long (lz d0), .null, .int (iz n7), .int (iz i8), .int (iz R.1), .null, .null, .null] [] ρ f g)
    (k : Nat) (hkl : k ≤ nMe T) (x : Int × Int × Int) (hx : -1 ≤ x.1 ∧ x.1 ≤ 5) (hx2 : 0 ≤ x.2.1 ∧ x.2.1 ≤ 99999) (f : IT) (g : JT) (hf : KM f0 f) (hg : KR g0 g) (hd : g 104 69 = x.2.2) (hR : wink T ra sk p some_ (nMe T - k) k x = R) :
    V_X12_wins Q 85 [.ref 104, .int (iz sd), .int (iz some_), .int (iz (p : Int)), .int (iz m4), .long (lz d0), .null, .int (iz n7), .int (iz i8), .int (iz x.1), .int (iz x.2.1), .int (iz (k : Int)), .null] [] ρ f g := by
  have h5 := hk.me
  have hT := hT0.km hf
  have fm : f 104 13 = ((nMe T : Nat) : Int) := (hT 104 13 rfl).trans h5.1
  refine V_il11 dX12_wins_85 ?_
  refine V_al0n dX12_wins_87 ?_
  refine V_getI kk104 (by decide) fl_X12_253 fm dX12_wins_88 ?_
  refine V_icmp_ge (tgt := 139) dX12_wins_91 rfl (by first | assumption | (unfold ri at *; omega)) (by first | assumption | (unfold ri at *; omega)) (fun b91 => ?_) (fun b91 => ?_)
  · rw [show nMe T - k = 0 by omega] at hR
    simp only [wink] at hR
    subst hR
    exact V_weak (by repeat (first | exact wk_n | refine wk_c (Or.inr rfl) ?_ | refine wk_c (Or.inl rfl) ?_)) (hX f g hf hg hd (by unfold ri; omega))
  · rw [show nMe T - k = (nMe T - (k + 1)) + 1 by omega, wink] at hR
    have hten := tenR_ri hk (ra := ra) hsk (m := k) (p := p) (by omega) hp x.2.2
    refine V_il2n dX12_wins_94 ?_
    refine V_il11 dX12_wins_95 ?_
    refine V_callS (as := [_, _]) ml_X12_573 sm_X12_isOf dX12_wins_97 rfl rfl (by decide) (by decide) (Nat.le_of_ble_eq_true rfl) (by decide) (by decide) rfl (c_isOf hso (k := k) (by omega)) ?_
    refine pq4 ?_
    refine V_bf (tgt := 106) dX12_wins_100 rfl (fun b100 => ?_) (fun b100 => ?_)
    · rw [if_pos (by simpa using b100)] at hR
      refine V_al0n dX12_wins_106 ?_
      refine V_il11 dX12_wins_107 ?_
      refine V_il3n dX12_wins_109 ?_
      refine V_callV (as := [_, _]) ml_X12_576 im_X12_races se_X12_races kk104 (by decide) (by decide) dX12_wins_110 rfl rfl (by decide) (by decide) (Nat.le_of_ble_eq_true rfl) (by decide) (by decide) rfl (c_races hρ hT hk (ra := ra) ((hf 104 67 rfl).trans hs) hsk ((hf 104 68 rfl).trans hr) (m := k) (by omega) hp hd) ?_
      rintro r110 ρ110 f110 g110 ⟨rfl, s110_0, kf, kg, hd1⟩
      obtain rfl := s110_0.symm
      refine V_is12 dX12_wins_113 (by decide) rfl ?_
      refine V_il12 dX12_wins_115 ?_
      refine V_il10 dX12_wins_117 ?_
      refine V_icmp_lt (tgt := 125) dX12_wins_119 rfl (by first | assumption | (unfold ri at *; omega)) (by first | assumption | (unfold ri at *; omega)) (fun b119 => ?_) (fun b119 => ?_)
      · rw [if_pos b119] at hR
        refine V_il12 dX12_wins_125 ?_
        refine V_is10 dX12_wins_127 (by decide) rfl ?_
        refine V_il11 dX12_wins_129 ?_
        refine V_is9 dX12_wins_131 (by decide) rfl ?_
        refine V_inc11 dX12_wins_133 (by decide) rfl ?_
        refine V_goto (tgt := 85) dX12_wins_136 rfl ?_
        first | exact V_weak (by repeat (first | exact wk_n | refine wk_c (Or.inr rfl) ?_ | refine wk_c (Or.inl rfl) ?_)) (w_winsIn hρ hk hs hsk hr hp hso hT0 hX (k + 1) (by omega) (x.1, x.2.1, (rcS T ra sk k p x.2.2).2) hx hx2 _ _ (hf.tr kf) (hg.tr kg) hd1 hR) | exact V_weak (by repeat (first | exact wk_n | refine wk_c (Or.inr rfl) ?_ | refine wk_c (Or.inl rfl) ?_)) (w_winsIn hρ hk hs hsk hr hp hso hT0 hX (k + 1) (by omega) ((k : Int), tenR (rcS T ra sk k p x.2.2), (rcS T ra sk k p x.2.2).2) (by simp only; omega) (by simp only; omega) _ _ (hf.tr kf) (hg.tr kg) hd1 hR) | exact V_weak (by repeat (first | exact wk_n | refine wk_c (Or.inr rfl) ?_ | refine wk_c (Or.inl rfl) ?_)) (w_winsIn hρ hk hs hsk hr hp hso hT0 hX (k + 1) (by omega) x hx hx2 _ _ hf hg hd hR)
      · rw [if_neg b119] at hR
        refine V_goto (tgt := 133) dX12_wins_122 rfl ?_
        refine V_inc11 dX12_wins_133 (by decide) rfl ?_
        refine V_goto (tgt := 85) dX12_wins_136 rfl ?_
        first | exact V_weak (by repeat (first | exact wk_n | refine wk_c (Or.inr rfl) ?_ | refine wk_c (Or.inl rfl) ?_)) (w_winsIn hρ hk hs hsk hr hp hso hT0 hX (k + 1) (by omega) (x.1, x.2.1, (rcS T ra sk k p x.2.2).2) hx hx2 _ _ (hf.tr kf) (hg.tr kg) hd1 hR) | exact V_weak (by repeat (first | exact wk_n | refine wk_c (Or.inr rfl) ?_ | refine wk_c (Or.inl rfl) ?_)) (w_winsIn hρ hk hs hsk hr hp hso hT0 hX (k + 1) (by omega) ((k : Int), tenR (rcS T ra sk k p x.2.2), (rcS T ra sk k p x.2.2).2) (by simp only; omega) (by simp only; omega) _ _ (hf.tr kf) (hg.tr kg) hd1 hR) | exact V_weak (by repeat (first | exact wk_n | refine wk_c (Or.inr rfl) ?_ | refine wk_c (Or.inl rfl) ?_)) (w_winsIn hρ hk hs hsk hr hp hso hT0 hX (k + 1) (by omega) x hx hx2 _ _ hf hg hd hR)
    · rw [if_neg (by simpa using b100)] at hR
      refine V_goto (tgt := 133) dX12_wins_103 rfl ?_
      refine V_inc11 dX12_wins_133 (by decide) rfl ?_
      refine V_goto (tgt := 85) dX12_wins_136 rfl ?_
      first | exact V_weak (by repeat (first | exact wk_n | refine wk_c (Or.inr rfl) ?_ | refine wk_c (Or.inl rfl) ?_)) (w_winsIn hρ hk hs hsk hr hp hso hT0 hX (k + 1) (by omega) (x.1, x.2.1, (rcS T ra sk k p x.2.2).2) hx hx2 _ _ (hf.tr kf) (hg.tr kg) hd1 hR) | exact V_weak (by repeat (first | exact wk_n | refine wk_c (Or.inr rfl) ?_ | refine wk_c (Or.inl rfl) ?_)) (w_winsIn hρ hk hs hsk hr hp hso hT0 hX (k + 1) (by omega) ((k : Int), tenR (rcS T ra sk k p x.2.2), (rcS T ra sk k p x.2.2).2) (by simp only; omega) (by simp only; omega) _ _ (hf.tr kf) (hg.tr kg) hd1 hR) | exact V_weak (by repeat (first | exact wk_n | refine wk_c (Or.inr rfl) ?_ | refine wk_c (Or.inl rfl) ?_)) (w_winsIn hρ hk hs hsk hr hp hso hT0 hX (k + 1) (by omega) x hx hx2 _ _ hf hg hd hR)
termination_by nMe T - k
theorem w_wins {T : TT} {Q : QT} {ρ : RT} {f0 : IT} {g0 : JT} (hρ : Fx ρ) (hk : TOK T) {sk : Int} {ra : Bool} (hs : f0 104 67 = sk) (hsk : 0 ≤ sk ∧ sk ≤ 30) (hr : f0 104 68 = bz ra) {p : Nat} (hp : p < nPl T) {some_ sd d0 m R : Int} (hso : ri some_) (hm : ri m) (hT0 : MT T f0)
    (hQ : ∀ (f : IT) (g : JT), KM f0 f → KR g0 g → Q (some (.int (iz R))) ρ f (u2 g 104 69 d0))
    (i : Nat) (hi : i ≤ 10) (n d : Int) (f : IT) (g : JT) (hf : KM f0 f) (hg : KR g0 g) (hd : g 104 69 = d) (hR : (winR T ra sk p some_ m (10 - i) (n, d)).1 = R) :
    V_X12_wins Q 68 [.ref 104, .int (iz sd), .int (iz some_), .int (iz (p : Int)), .int (iz m), .long (lz d0), .null, .int (iz n), .int (iz (i : Int)), .null, .null, .null, .null] [] ρ f g := by
  refine V_il8 dX12_wins_68 ?_
  refine V_bipush dX12_wins_70 rfl ?_
  refine V_icmp_ge (tgt := 162) dX12_wins_72 rfl (by first | assumption | (unfold ri at *; omega)) (by first | assumption | (unfold ri at *; omega)) (fun b72 => ?_) (fun b72 => ?_)
  · rw [show 10 - i = 0 by omega] at hR
    simp only [winR] at hR
    subst hR
    refine V_al0n dX12_wins_162 ?_
    refine V_ll5 dX12_wins_163 ?_
    refine V_putJ kk104 (by decide) fl_X12_288 rfl dX12_wins_165 ?_
    refine V_il7 dX12_wins_168 ?_
    exact V_ireturn rfl (hQ f g hf hg) dX12_wins_170
  · rw [show 10 - i = (10 - (i + 1)) + 1 by omega, winR] at hR
    refine V_iconst dX12_wins_75 ?_
    refine V_is9 dX12_wins_76 (by decide) rfl ?_
    refine V_ldc (a := 99999) kc_X12_192 rfl dX12_wins_78 ?_
    refine V_is10 dX12_wins_80 (by decide) rfl ?_
    refine V_iconst dX12_wins_82 ?_
    refine V_is11 dX12_wins_83 (by decide) rfl ?_
    refine w_winsIn hρ hk hs hsk hr hp hso hT0 (R := wink T ra sk p some_ (nMe T) 0 (-1, 99999, d)) ?_ 0 (by omega) (-1, 99999, d) (by simp) (by simp) f g hf hg hd rfl
    intro f1 g1 hf1 hg1 hd1 hri
    refine V_il7 dX12_wins_139 ?_
    refine V_il9 dX12_wins_141 ?_
    refine V_il4 dX12_wins_143 ?_
    refine V_icmp_ne (tgt := 152) dX12_wins_145 rfl hri hm (fun b145 => ?_) (fun b145 => ?_)
    · refine V_iconst dX12_wins_152 ?_
      refine V_iadd dX12_wins_153 ?_
      refine V_is7 dX12_wins_154 (by decide) rfl ?_
      refine V_inc8 dX12_wins_156 (by decide) rfl ?_
      refine V_goto (tgt := 68) dX12_wins_159 rfl ?_
      exact V_weak (by repeat (first | exact wk_n | refine wk_c (Or.inr rfl) ?_ | refine wk_c (Or.inl rfl) ?_)) (w_wins hρ hk hs hsk hr hp hso hm hT0 hQ (i + 1) (by omega) _ _ f1 g1 hf1 hg1 hd1 (by rw [← hR]; simp [b145, bz]))
    · refine V_iconst dX12_wins_148 ?_
      refine V_goto (tgt := 153) dX12_wins_149 rfl ?_
      refine V_iadd dX12_wins_153 ?_
      refine V_is7 dX12_wins_154 (by decide) rfl ?_
      refine V_inc8 dX12_wins_156 (by decide) rfl ?_
      refine V_goto (tgt := 68) dX12_wins_159 rfl ?_
      exact V_weak (by repeat (first | exact wk_n | refine wk_c (Or.inr rfl) ?_ | refine wk_c (Or.inl rfl) ?_)) (w_wins hρ hk hs hsk hr hp hso hm hT0 hQ (i + 1) (by omega) _ _ f1 g1 hf1 hg1 hd1 (by rw [← hR]; simp [b145, bz]))
termination_by 10 - i
def areM (T : TT) (some_ : Int) : Bool := decide (0 ≤ some_ ∧ some_ / 2 ^ nMe T = 0)
def aWins (T : TT) (ra : Bool) (sk seed some_ p m : Int) : Int := if (decide (0 ≤ seed) && areM T some_ && okP T p && okM T m && decide (some_ / 2 ^ m.toNat % 2 = 1)) = true then (winR T ra sk p.toNat some_ m 10 (0, seed)).1 else -1
theorem c_mwins {T : TT} {ρ : RT} {f : IT} {g : JT} (hρ : Fx ρ) (hT : MT T f) (hk : TOK T) {sk : Int} {ra : Bool} (hs : f 104 67 = sk) (hsk : 0 ≤ sk ∧ sk ≤ 30) (hr : f 104 68 = bz ra) {sd so p m : Int} (rsd : ri sd) (rso : ri so) (rp : ri p) (rm : ri m) :
    C_X12_wins [.ref 104, .int (iz sd), .int (iz so), .int (iz p), .int (iz m)] ρ f g (fun r ρ' f' g' => r = some (.int (iz (aWins T ra sk sd so p m))) ∧ ρ' = ρ ∧ KM f f' ∧ KM g g') := by
  have h5 := hk.me
  have h4 := hk.pl
  have hT1 : MT T (u2 f 104 2 0) := hT.km (KM.u2 rfl KM.rf)
  have rq : ri (so / 2 ^ nMe T) := by
    have h1 : 0 < (2 : Int) ^ nMe T := Int.pow_pos (by omega)
    have h2 : so / 2 ^ nMe T ≤ 2147483647 := by
      by_cases h : 0 ≤ so
      · exact Int.le_trans (Int.ediv_le_self _ h) rso.2
      · have := Int.ediv_neg_of_neg_of_pos (show so < 0 by omega) h1; omega
    have h3 : -2147483648 ≤ so / 2 ^ nMe T := by
      rw [Int.le_ediv_iff_mul_le h1]
      have : (1 : Int) ≤ 2 ^ nMe T := by omega
      have := rso.1
      have h7 : (-2147483648 : Int) * 2 ^ nMe T ≤ -2147483648 * 1 := Int.mul_le_mul_of_nonpos_left (by omega) (by omega)
      omega
    exact ⟨h3, h2⟩
  refine Ct.ofV (by decide) rfl (Nat.le_of_ble_eq_true rfl) ?_
  refine V_al0n dX12_wins_0 ?_
  refine V_iconst dX12_wins_1 ?_
  refine V_putI kk104 (by decide) fl_X12_154 rfl dX12_wins_2 ?_
  refine V_il1n dX12_wins_5 ?_
  refine V_if_lt (tgt := 48) dX12_wins_6 rfl (by first | assumption | (unfold ri at *; omega)) (fun b6 => ?_) (fun b6 => ?_)
  · refine V_iconst dX12_wins_48 ?_
    exact V_ireturn rfl ⟨by unfold aWins okM okP areM; rw [if_neg]; simp only [Bool.and_eq_true, decide_eq_true_eq]; intro hc; first | omega | (rw [hc.1.1.2] at b27; cases b27) | (rw [hc.1.2] at b36; cases b36) | (simp [*] at * <;> omega) | simp_all, rfl, KM.u2 rfl KM.rf, KM.rf⟩ dX12_wins_49
  · refine V_il2n dX12_wins_9 ?_
    refine V_if_lt (tgt := 48) dX12_wins_10 rfl (by first | assumption | (unfold ri at *; omega)) (fun b10 => ?_) (fun b10 => ?_)
    · refine V_iconst dX12_wins_48 ?_
      exact V_ireturn rfl ⟨by unfold aWins okM okP areM; rw [if_neg]; simp only [Bool.and_eq_true, decide_eq_true_eq]; intro hc; first | omega | (rw [hc.1.1.2] at b27; cases b27) | (rw [hc.1.2] at b36; cases b36) | (simp [*] at * <;> omega) | simp_all, rfl, KM.u2 rfl KM.rf, KM.rf⟩ dX12_wins_49
    · refine V_il2n dX12_wins_13 ?_
      refine V_al0n dX12_wins_14 ?_
      refine V_getI kk104 (by decide) fl_X12_253 (u2_n (by decide) ((hT 104 13 rfl).trans h5.1)) dX12_wins_15 ?_
      refine V_ishr dX12_wins_18 (iz_shr rso (by omega)) ?_
      refine V_if_ne (tgt := 48) dX12_wins_19 rfl (by first | assumption | (unfold ri at *; omega)) (fun b19 => ?_) (fun b19 => ?_)
      · refine V_iconst dX12_wins_48 ?_
        exact V_ireturn rfl ⟨by unfold aWins okM okP areM; rw [if_neg]; simp only [Bool.and_eq_true, decide_eq_true_eq]; intro hc; first | omega | (rw [hc.1.1.2] at b27; cases b27) | (rw [hc.1.2] at b36; cases b36) | (simp [*] at * <;> omega) | simp_all, rfl, KM.u2 rfl KM.rf, KM.rf⟩ dX12_wins_49
      · refine V_al0n dX12_wins_22 ?_
        refine V_il3n dX12_wins_23 ?_
        refine V_callV (as := [_]) ml_X12_456 im_X12_isPlan se_X12_isPlan kk104 (by decide) (by decide) dX12_wins_24 rfl rfl (by decide) (by decide) (Nat.le_of_ble_eq_true rfl) (by decide) (by decide) rfl (c_isPlan rp ((hT1 104 15 rfl).trans h4.1) (by unfold ri; omega)) ?_
        refine pq4 ?_
        refine V_bt (tgt := 48) dX12_wins_27 rfl (fun b27 => ?_) (fun b27 => ?_)
        · refine V_iconst dX12_wins_48 ?_
          exact V_ireturn rfl ⟨by unfold aWins okM okP areM; rw [if_neg]; simp only [Bool.and_eq_true, decide_eq_true_eq]; intro hc; first | omega | (rw [hc.1.1.2] at b27; cases b27) | (rw [hc.1.2] at b36; cases b36) | (simp [*] at * <;> omega) | simp_all, rfl, KM.u2 rfl KM.rf, KM.rf⟩ dX12_wins_49
        · refine V_al0n dX12_wins_30 ?_
          refine V_il4 dX12_wins_31 ?_
          refine V_callV (as := [_]) ml_X12_462 im_X12_isMan se_X12_isMan kk104 (by decide) (by decide) dX12_wins_33 rfl rfl (by decide) (by decide) (Nat.le_of_ble_eq_true rfl) (by decide) (by decide) rfl (c_isMan rm ((hT1 104 13 rfl).trans h5.1) (by unfold ri; omega)) ?_
          refine pq4 ?_
          refine V_bt (tgt := 48) dX12_wins_36 rfl (fun b36 => ?_) (fun b36 => ?_)
          · refine V_iconst dX12_wins_48 ?_
            exact V_ireturn rfl ⟨by unfold aWins okM okP areM; rw [if_neg]; simp only [Bool.and_eq_true, decide_eq_true_eq]; intro hc; first | omega | (rw [hc.1.1.2] at b27; cases b27) | (rw [hc.1.2] at b36; cases b36) | (simp [*] at * <;> omega) | simp_all, rfl, KM.u2 rfl KM.rf, KM.rf⟩ dX12_wins_49
          · have c1 := b36
            simp only [decide_eq_true_eq] at c1
            obtain ⟨mN, rfl⟩ : ∃ n : Nat, m = n := ⟨m.toNat, by omega⟩
            refine V_il2n dX12_wins_39 ?_
            refine V_il4 dX12_wins_40 ?_
            refine V_callS (as := [_, _]) ml_X12_573 sm_X12_isOf dX12_wins_42 rfl rfl (by decide) (by decide) (Nat.le_of_ble_eq_true rfl) (by decide) (by decide) rfl (c_isOf rso (k := mN) (by omega)) ?_
            refine pq4 ?_
            refine V_bf (tgt := 50) dX12_wins_45 rfl (fun b45 => ?_) (fun b45 => ?_)
            · have c2 := b27
              simp only [decide_eq_true_eq] at c2
              obtain ⟨pN, rfl⟩ : ∃ n : Nat, p = n := ⟨p.toNat, by omega⟩
              have ea : aWins T ra sk sd so (pN : Int) (mN : Int) = (winR T ra sk pN so mN 10 (0, sd)).1 := by unfold aWins okM okP areM; simp only [b27, b36, b19, decide_eq_true (show 0 ≤ sd by omega), decide_eq_true (show 0 ≤ so by omega)]; simp at b45 ⊢; simp [b45]; omega
              refine V_al0n dX12_wins_50 ?_
              refine V_getJ kk104 (by decide) fl_X12_288 rfl dX12_wins_51 ?_
              refine V_ls5 dX12_wins_54 (by decide) rfl ?_
              refine V_al0n dX12_wins_56 ?_
              refine V_il1n dX12_wins_57 ?_
              refine V_i2l dX12_wins_58 (by first | assumption | (unfold ri at *; omega)) ?_
              refine V_putJ kk104 (by decide) fl_X12_288 rfl dX12_wins_59 ?_
              refine V_iconst dX12_wins_62 ?_
              refine V_is7 dX12_wins_63 (by decide) rfl ?_
              refine V_iconst dX12_wins_65 ?_
              refine V_is8 dX12_wins_66 (by decide) rfl ?_
              exact w_wins hρ hk (f0 := u2 f 104 2 0) (g0 := g) (ra := ra) (u2_n (by omega) hs) hsk (u2_n (by omega) hr) (p := pN) (by omega) rso rm hT1 (fun f' g' a1 a2 => ⟨rfl, rfl, (KM.u2 (x := 0) rfl KM.rf).tr a1, a2.back rfl⟩) 0 (by omega) 0 sd _ _ KM.rf KR.dr u2_s ea.symm
            · refine V_iconst dX12_wins_48 ?_
              exact V_ireturn rfl ⟨by unfold aWins okM okP areM; rw [if_neg]; simp only [Bool.and_eq_true, decide_eq_true_eq]; intro hc; first | omega | (rw [hc.1.1.2] at b27; cases b27) | (rw [hc.1.2] at b36; cases b36) | (simp [*] at * <;> omega) | simp_all, rfl, KM.u2 rfl KM.rf, KM.rf⟩ dX12_wins_49

