section CTOK2
variable {ρ : RT} {g : JT} {tp : Nat → Int} {s : Nat}
theorem isL_iff {c : Int} : isL c = true ↔ 97 ≤ c ∧ c ≤ 122 := by unfold isL; simp
theorem isG_iff {c : Int} : isG c = true ↔ 48 ≤ c ∧ c ≤ 57 := by unfold isG; simp
theorem isW_iff {c : Int} : isW c = true ↔ c = 10 ∨ c = 32 := by unfold isW; simp
/-- letters up to the sixth, laid from above -/
theorem pkR_up {d : Nat → Int} : ∀ j n, (∀ i, n ≤ i → i < n + j → d i = 0) → pkR d (n + j) = pkR d n * 32 ^ j
  | 0, n, _ => by simp
  | j + 1, n, h => by
    rw [← Nat.add_assoc, pkR, pkR_up j n (fun i h1 h2 => h i h1 (by omega)), h (n + j) (by omega) (by omega), Int.pow_succ, Int.mul_assoc]
    omega
theorem pkR_cg {d e : Nat → Int} : ∀ n, (∀ i, i < n → d i = e i) → pkR d n = pkR e n
  | 0, _ => rfl
  | n + 1, h => by rw [pkR, pkR, pkR_cg n (fun i hi => h i (by omega)), h n (by omega)]
def lwV (tp : Nat → Int) (a n : Nat) : Int := pkR (fun i => tp (a + i) - 96) n * 2 ^ (30 - 5 * n)
theorem lwV_pkd {a n : Nat} (hn : n ≤ 6) : lwV tp a n = pkd tp a (a + n) := by
  unfold lwV pkd
  rw [← pkR6]
  have h1 := pkR_up (d := dgt tp a (a + n)) (6 - n) n (fun i h1 h2 => by unfold dgt; rw [if_neg (by omega)])
  rw [show n + (6 - n) = 6 by omega] at h1
  rw [h1, pkR_cg n (d := fun i => tp (a + i) - 96) (e := dgt tp a (a + n)) (fun i hi => by unfold dgt; rw [if_pos (by omega)])]
  congr 1
  rcases (show n = 0 ∨ n = 1 ∨ n = 2 ∨ n = 3 ∨ n = 4 ∨ n = 5 ∨ n = 6 by omega) with e | e | e | e | e | e | e <;> subst e <;> decide
theorem lwV_s {a n : Nat} (hn : n < 6) (hl : ∀ i, i < 6 → a + i ≤ a + n → 97 ≤ tp (a + i) ∧ tp (a + i) ≤ 122) : iz (lwV tp a n) ||| iz ((tp (a + n) - 97 + 1) * 2 ^ (25 - 5 * n)) = iz (lwV tp a (n + 1)) ∧ (0 ≤ lwV tp a n ∧ lwV tp a n < 1073741824) := by
  have hd := hl n hn (by omega)
  have hr := pkR_rng (d := fun i => if i ≤ n then tp (a + i) - 96 else 0) (fun i hi => by
    by_cases z : i ≤ n
    · have := hl i hi (by omega)
      simp only [z, if_true]
      omega
    · simp only [z, if_false]
      omega) n (by omega)
  have ec : pkR (fun i => if i ≤ n then tp (a + i) - 96 else 0) n = pkR (fun i => tp (a + i) - 96) n := pkR_cg n (fun i hi => by rw [if_pos (by omega)])
  rw [ec] at hr
  unfold lwV
  rw [pkR]
  generalize pkR (fun i => tp (a + i) - 96) n = B at *
  obtain ⟨bN, rfl⟩ : ∃ k : Nat, B = k := ⟨B.toNat, by omega⟩
  obtain ⟨dN, hdN⟩ : ∃ k : Nat, tp (a + n) - 97 + 1 = (k : Int) := ⟨(tp (a + n) - 97 + 1).toNat, by omega⟩
  have hd2 : tp (a + n) - 96 = (dN : Int) := by omega
  have hd3 : dN < 32 := by omega
  have hbN : bN < 32 ^ n := by exact_mod_cast hr.2
  have hP : (32 : Nat) ^ n * 2 ^ (30 - 5 * n) = 1073741824 := by
    rcases (show n = 0 ∨ n = 1 ∨ n = 2 ∨ n = 3 ∨ n = 4 ∨ n = 5 by omega) with e | e | e | e | e | e <;> subst e <;> decide
  have hk32 : (2 : Nat) ^ (30 - 5 * n) = 32 * 2 ^ (25 - 5 * n) := by
    rcases (show n = 0 ∨ n = 1 ∨ n = 2 ∨ n = 3 ∨ n = 4 ∨ n = 5 by omega) with e | e | e | e | e | e <;> subst e <;> decide
  have hpos : 0 < (2 : Nat) ^ (25 - 5 * n) := Nat.pow_pos (by omega)
  have e1 : (2 : Int) ^ (30 - 5 * n) = ((2 ^ (30 - 5 * n) : Nat) : Int) := by simp
  have e2 : (2 : Int) ^ (25 - 5 * n) = ((2 ^ (25 - 5 * n) : Nat) : Int) := by simp
  have hb1 : (bN + 1) * 2 ^ (30 - 5 * n) ≤ 32 ^ n * 2 ^ (30 - 5 * n) := Nat.mul_le_mul_right _ (by omega)
  have hd4 : dN * 2 ^ (25 - 5 * n) < 2 ^ (30 - 5 * n) := by rw [hk32]; exact Nat.mul_lt_mul_of_pos_right hd3 hpos
  have h := iz_orH (a := dN * 2 ^ (25 - 5 * n)) (b := bN) (k := 30 - 5 * n) hd4 (by rw [Nat.add_mul, Nat.one_mul] at hb1; omega)
  rw [hdN, hd2, show 30 - 5 * (n + 1) = 25 - 5 * n by omega]
  constructor
  · rw [e2, show (dN : Int) * ((2 ^ (25 - 5 * n) : Nat) : Int) = ((dN * 2 ^ (25 - 5 * n) : Nat) : Int) by simp, h]
    congr 1
    rw [e1, hk32]
    generalize (2 : Nat) ^ (25 - 5 * n) = P at *
    simp only [Int.natCast_mul, Int.add_mul, Int.mul_assoc]
    rfl
  · rw [e1]
    rw [Nat.add_mul, Nat.one_mul] at hb1
    have e3 : (bN : Int) * ((2 ^ (30 - 5 * n) : Nat) : Int) = ((bN * 2 ^ (30 - 5 * n) : Nat) : Int) := by simp
    rw [e3]
    have : 0 < (2 : Nat) ^ (30 - 5 * n) := Nat.pow_pos (by omega)
    omega
/-- only the tokens' own cells change, not where they end -/
def KT4 (f f' : IT) : Prop := ∀ a k, ¬ (a = 4 ∧ 2 ≤ k) → f' a k = f a k
theorem KT4.rf {f : IT} : KT4 f f := fun _ _ _ => rfl
theorem KT4.tr {f f' f'' : IT} (h : KT4 f f') (h' : KT4 f' f'') : KT4 f f'' := fun a k q => (h' a k q).trans (h a k q)
theorem KT4.u {f f' : IT} {k : Nat} {x : Int} (h : KT4 f f') (hk : 2 ≤ k) : KT4 f (u2 f' 4 k x) := fun a j q => (u2_o (by omega)).trans (h a j q)
theorem CTp.kt {f f' : IT} (h : CTp tp s f) (hk : KT4 f f') : CTp tp s f' := h.cg (hk 4 1 (by omega)) (fun k => hk 1 k (by omega))
theorem w_rw7 {Q : QT} {f0 : IT} (hρ : Fx ρ) (hT : CTp tp s f0) {a b : Nat} (hb : b = run1 isL tp (s - a) a) (has : a < s)
    (hX : ∀ f : IT, KT4 f0 f → f 4 2 = (b : Int) → f 4 4 = f0 4 4 → f 4 6 = f0 4 6 → (b - a ≤ 6 → f 4 5 = pkd tp a b) → V_X6_readWord Q 85 [.ref 4, .int (iz ((b - a : Nat) : Int))] [] ρ f g)
    (q : Nat) (hq : a ≤ q ∧ q ≤ b) (f : IT) (hf : KT4 f0 f) (h2 : f 4 2 = (q : Int)) (h4 : f 4 4 = f0 4 4) (h6 : f 4 6 = f0 4 6) (h5 : f 4 5 = lwV tp a (min (q - a) 6)) :
    V_X6_readWord Q 7 [.ref 4, .int (iz ((q - a : Nat) : Int))] [] ρ f g := by
  have hT1 := hT.kt hf
  obtain ⟨t1, t2, t3, t4⟩ := hT1
  have hle := run1_le (P := isL) (tp := tp) (s - a) a
  rw [← hb] at hle
  have hin : ∀ i, a ≤ i → i < b → 97 ≤ tp i ∧ tp i ≤ 122 := fun i h1 h2 => isL_iff.mp (run1_in (s - a) a i h1 (by rw [← hb]; exact h2))
  have hend : b < s → isL (tp b) = false := fun z => by
    have := run1_end (P := isL) (tp := tp) (s - a) a (by omega)
    rw [← hb] at this
    exact this
  by_cases e : q = b
  · subst e
    have fin := hX f hf h2 h4 h6 (fun z => by rw [h5, show min (q - a) 6 = q - a by omega, lwV_pkd (by omega), show a + (q - a) = q by omega])
    by_cases c : q = s
    · refine V_al0n dX6_readWord_7 ?_
      refine V_getI kk4 (by decide) fl_X6_15 h2 dX6_readWord_8 ?_
      refine V_al0n dX6_readWord_11 ?_
      refine V_getI kk4 (by decide) fl_X6_9 t2 dX6_readWord_12 ?_
      refine V_icmp_ge (tgt := 85) dX6_readWord_15 rfl (by unfold ri; omega) (by unfold ri; omega) (fun b15 => ?_) (fun b15 => ?_)
      · exact fin
      · exfalso; omega
    · have hbq := t4 q (by omega)
      have hlf := hend (by omega)
      refine V_al0n dX6_readWord_7 ?_
      refine V_getI kk4 (by decide) fl_X6_15 h2 dX6_readWord_8 ?_
      refine V_al0n dX6_readWord_11 ?_
      refine V_getI kk4 (by decide) fl_X6_9 t2 dX6_readWord_12 ?_
      refine V_icmp_ge (tgt := 85) dX6_readWord_15 rfl (by unfold ri; omega) (by unfold ri; omega) (fun b15 => ?_) (fun b15 => ?_)
      · exfalso; omega
      · refine V_al0n dX6_readWord_18 ?_
        refine V_getR kk4 (by decide) fl_X6_30 (fx_4_0 hρ) dX6_readWord_19 ?_
        refine V_al0n dX6_readWord_22 ?_
        refine V_getI kk4 (by decide) fl_X6_15 h2 dX6_readWord_23 ?_
        refine V_iald (k := q) kk1 (by decide) (by first | rfl | omega) (by omega) (by first | decide | assumption | omega) (t3 q (by omega)) dX6_readWord_26 ?_
        refine V_callS (as := [_]) ml_X6_40 sm_X6_isLetter dX6_readWord_27 rfl rfl (by decide) (by decide) (Nat.le_of_ble_eq_true rfl) (by decide) (by decide) rfl (c_xLetter (n := tp q) (by unfold ri; omega)) ?_
        refine pq4 ?_
        refine V_bt (tgt := 85) dX6_readWord_30 rfl (fun b30 => ?_) (fun b30 => ?_)
        · exact fin
        · rw [hlf] at b30; cases b30
  · have hlq := hin q (by omega) (by omega)
    have hlt : isL (tp q) = true := isL_iff.mpr hlq
    have eq1 : ((q : Int) + 1) = ((q + 1 : Nat) : Int) := by omega
    have en : (((q - a : Nat)) : Int) + 1 = ((q + 1 - a : Nat) : Int) := by omega
    by_cases c : q - a < 6
    · have hls := lwV_s (tp := tp) (a := a) c (fun i h1 h2 => hin (a + i) (by omega) (by omega))
      rw [show a + (q - a) = q by omega] at hls
      have h5' : f 4 5 = lwV tp a (q - a) := by rw [h5, show min (q - a) 6 = q - a by omega]
      refine V_al0n dX6_readWord_7 ?_
      refine V_getI kk4 (by decide) fl_X6_15 h2 dX6_readWord_8 ?_
      refine V_al0n dX6_readWord_11 ?_
      refine V_getI kk4 (by decide) fl_X6_9 t2 dX6_readWord_12 ?_
      refine V_icmp_ge (tgt := 85) dX6_readWord_15 rfl (by unfold ri; omega) (by unfold ri; omega) (fun b15 => ?_) (fun b15 => ?_)
      · exfalso; omega
      · refine V_al0n dX6_readWord_18 ?_
        refine V_getR kk4 (by decide) fl_X6_30 (fx_4_0 hρ) dX6_readWord_19 ?_
        refine V_al0n dX6_readWord_22 ?_
        refine V_getI kk4 (by decide) fl_X6_15 h2 dX6_readWord_23 ?_
        refine V_iald (k := q) kk1 (by decide) (by first | rfl | omega) (by omega) (by first | decide | assumption | omega) (t3 q (by omega)) dX6_readWord_26 ?_
        refine V_callS (as := [_]) ml_X6_40 sm_X6_isLetter dX6_readWord_27 rfl rfl (by decide) (by decide) (Nat.le_of_ble_eq_true rfl) (by decide) (by decide) rfl (c_xLetter (n := tp q) (by unfold ri; omega)) ?_
        refine pq4 ?_
        refine V_bt (tgt := 85) dX6_readWord_30 rfl (fun b30 => ?_) (fun b30 => ?_)
        · rw [hlt] at b30; cases b30
        · refine V_il1n dX6_readWord_33 ?_
          refine V_bipush dX6_readWord_34 rfl ?_
          refine V_icmp_ge (tgt := 69) dX6_readWord_36 rfl (by unfold ri; omega) (by unfold ri; omega) (fun b36 => ?_) (fun b36 => ?_)
          · exfalso; omega
          · refine V_al0n dX6_readWord_39 ?_
            refine V_dup dX6_readWord_40 rfl ?_
            refine V_getI kk4 (by decide) fl_X6_24 h5' dX6_readWord_41 ?_
            refine V_al0n dX6_readWord_44 ?_
            refine V_getR kk4 (by decide) fl_X6_30 (fx_4_0 hρ) dX6_readWord_45 ?_
            refine V_al0n dX6_readWord_48 ?_
            refine V_getI kk4 (by decide) fl_X6_15 h2 dX6_readWord_49 ?_
            refine V_iald (k := q) kk1 (by decide) (by first | rfl | omega) (by omega) (by first | decide | assumption | omega) (t3 q (by omega)) dX6_readWord_52 ?_
            refine V_bipush dX6_readWord_53 rfl ?_
            refine V_isub dX6_readWord_55 ?_
            refine V_iconst dX6_readWord_56 ?_
            refine V_iadd dX6_readWord_57 ?_
            refine V_bipush dX6_readWord_58 rfl ?_
            refine V_iconst dX6_readWord_60 ?_
            refine V_il1n dX6_readWord_61 ?_
            refine V_imul dX6_readWord_62 ?_
            refine V_isub dX6_readWord_63 ?_
            refine V_ishl dX6_readWord_64 (iz_shlE (b := 25 - 5 * (q - a)) (v := (tp q - 97 + 1) * 2 ^ (25 - 5 * (q - a))) (by omega) (by omega) rfl) ?_
            refine V_ior dX6_readWord_65 hls.1 ?_
            refine V_putI kk4 (by decide) fl_X6_24 rfl dX6_readWord_66 ?_
            refine V_inc1 dX6_readWord_69 (by decide) rfl ?_
            refine V_al0n dX6_readWord_72 ?_
            refine V_dup dX6_readWord_73 rfl ?_
            refine V_getI kk4 (by decide) fl_X6_15 (u2_n (by omega) h2) dX6_readWord_74 ?_
            refine V_iconst dX6_readWord_77 ?_
            refine V_iadd dX6_readWord_78 ?_
            refine V_putI kk4 (by decide) fl_X6_15 rfl dX6_readWord_79 ?_
            refine V_goto (tgt := 7) dX6_readWord_82 rfl ?_
            rw [en, eq1]
            exact w_rw7 hρ hT hb has hX (q + 1) (by omega) _ ((hf.u (by omega)).u (by omega)) u2_s (by rw [u2_o (by omega), u2_o (by omega)]; exact h4) (by rw [u2_o (by omega), u2_o (by omega)]; exact h6) (by rw [u2_o (by omega), u2_s]; congr 1; omega)
    · refine V_al0n dX6_readWord_7 ?_
      refine V_getI kk4 (by decide) fl_X6_15 h2 dX6_readWord_8 ?_
      refine V_al0n dX6_readWord_11 ?_
      refine V_getI kk4 (by decide) fl_X6_9 t2 dX6_readWord_12 ?_
      refine V_icmp_ge (tgt := 85) dX6_readWord_15 rfl (by unfold ri; omega) (by unfold ri; omega) (fun b15 => ?_) (fun b15 => ?_)
      · exfalso; omega
      · refine V_al0n dX6_readWord_18 ?_
        refine V_getR kk4 (by decide) fl_X6_30 (fx_4_0 hρ) dX6_readWord_19 ?_
        refine V_al0n dX6_readWord_22 ?_
        refine V_getI kk4 (by decide) fl_X6_15 h2 dX6_readWord_23 ?_
        refine V_iald (k := q) kk1 (by decide) (by first | rfl | omega) (by omega) (by first | decide | assumption | omega) (t3 q (by omega)) dX6_readWord_26 ?_
        refine V_callS (as := [_]) ml_X6_40 sm_X6_isLetter dX6_readWord_27 rfl rfl (by decide) (by decide) (Nat.le_of_ble_eq_true rfl) (by decide) (by decide) rfl (c_xLetter (n := tp q) (by unfold ri; omega)) ?_
        refine pq4 ?_
        refine V_bt (tgt := 85) dX6_readWord_30 rfl (fun b30 => ?_) (fun b30 => ?_)
        · rw [hlt] at b30; cases b30
        · refine V_il1n dX6_readWord_33 ?_
          refine V_bipush dX6_readWord_34 rfl ?_
          refine V_icmp_ge (tgt := 69) dX6_readWord_36 rfl (by unfold ri; omega) (by unfold ri; omega) (fun b36 => ?_) (fun b36 => ?_)
          · refine V_inc1 dX6_readWord_69 (by decide) rfl ?_
            refine V_al0n dX6_readWord_72 ?_
            refine V_dup dX6_readWord_73 rfl ?_
            refine V_getI kk4 (by decide) fl_X6_15 h2 dX6_readWord_74 ?_
            refine V_iconst dX6_readWord_77 ?_
            refine V_iadd dX6_readWord_78 ?_
            refine V_putI kk4 (by decide) fl_X6_15 rfl dX6_readWord_79 ?_
            refine V_goto (tgt := 7) dX6_readWord_82 rfl ?_
            rw [en, eq1]
            exact w_rw7 hρ hT hb has hX (q + 1) (by omega) _ (hf.u (by omega)) u2_s (by rw [u2_o (by omega)]; exact h4) (by rw [u2_o (by omega)]; exact h6) (by rw [u2_o (by omega), h5]; congr 1; omega)
          · exfalso; omega
termination_by b - q
theorem c_readWord {f : IT} (hρ : Fx ρ) (hT : CTp tp s f) {a : Nat} (has : a < s) (h2 : f 4 2 = (a : Int)) (h4 : f 4 4 = (a : Int)) (h6 : f 4 6 = -1) (hl : isL (tp a) = true) : C_X6_readWord [.ref 4] ρ f g (fun r ρ' f' g' => r = none ∧ ρ' = ρ ∧ KT4 f f' ∧ TKc (wrdT tp a (run1 isL tp (s - a) a)) f' ∧ g' = g) := by
  have hle := run1_le (P := isL) (tp := tp) (s - a) a
  have hin : ∀ i, a ≤ i → i < run1 isL tp (s - a) a → 97 ≤ tp i ∧ tp i ≤ 122 := fun i h1 h2 => isL_iff.mp (run1_in (s - a) a i h1 h2)
  generalize hb : run1 isL tp (s - a) a = b at *
  have hpk := pkd_rng (tp := tp) (a := a) (b := b) hin
  have h85 : ∀ f1 : IT, KT4 f f1 → f1 4 2 = (b : Int) → f1 4 4 = f 4 4 → f1 4 6 = f 4 6 → (b - a ≤ 6 → f1 4 5 = pkd tp a b) → V_X6_readWord (fun r ρ' f' g' => r = none ∧ ρ' = ρ ∧ KT4 f f' ∧ TKc (wrdT tp a b) f' ∧ g' = g) 85 [.ref 4, .int (iz ((b - a : Nat) : Int))] [] ρ f1 g := by
    intro f1 k1 e2 e4 e6 e5
    have s700 := hT.1
    by_cases c : b - a ≤ 6
    · have e5 := e5 c
      have ew : wIdx tp a b = fnd MWf 0 29 (pkd tp a b) := by unfold wIdx; rw [if_pos c]
      have hkw := c_knowWord (ρ := ρ) (g := g) (f := u2 f1 4 3 18) (v := pkd tp a b) (by unfold ri; omega) (u2_n (by omega) e5) (u2_n (by omega) (e6.trans h6)) u2_s
      refine V_al0n dX6_readWord_85 ?_
      refine V_il1n dX6_readWord_86 ?_
      refine V_bipush dX6_readWord_87 rfl ?_
      refine V_icmp_gt (tgt := 97) dX6_readWord_89 rfl (by unfold ri; omega) (by unfold ri; omega) (fun b89 => ?_) (fun b89 => ?_)
      · exfalso; omega
      · refine V_bipush dX6_readWord_92 rfl ?_
        refine V_goto (tgt := 99) dX6_readWord_94 rfl ?_
        refine V_putI kk4 (by decide) fl_X6_18 rfl dX6_readWord_99 ?_
        refine V_al0n dX6_readWord_102 ?_
        refine V_getI kk4 (by decide) fl_X6_18 u2_s dX6_readWord_103 ?_
        refine V_bipush dX6_readWord_106 rfl ?_
        refine V_icmp_ne (tgt := 115) dX6_readWord_108 rfl (by unfold ri; omega) (by unfold ri; omega) (fun b108 => ?_) (fun b108 => ?_)
        · exfalso; omega
        · refine V_al0n dX6_readWord_111 ?_
          refine V_callV (as := []) ml_X6_56 im_X6_knowWord se_X6_knowWord kk4 (by decide) (by decide) dX6_readWord_112 rfl rfl (by decide) (by decide) (Nat.le_of_ble_eq_true rfl) (by decide) (by decide) rfl (hkw) ?_
          rintro r112 ρ112 f112 g112 ⟨rfl, s112_0, q1, q2, s112_1⟩
          obtain rfl := s112_0.symm
          obtain rfl := s112_1.symm
          exact V_return rfl ⟨rfl, rfl, fun x k z => (q1 x k (by omega)).trans ((k1.u (by omega)) x k z), ⟨by rw [q1 4 4 (by omega), u2_o (by omega), e4, h4]; rfl, by rw [q1 4 2 (by omega), u2_o (by omega), e2]; rfl, by show TKv (if 0 ≤ wIdx tp a b then 1 else if 6 < b - a then 6 else 2) (if 0 ≤ wIdx tp a b then wIdx tp a b else if 6 < b - a then -1 else pkd tp a b) (f112 4 3) (f112 4 5) (f112 4 6); rw [ew, if_neg (show ¬ 6 < b - a by omega), if_neg (show ¬ 6 < b - a by omega)]; exact q2⟩, rfl⟩ dX6_readWord_115
    · have ew : wIdx tp a b = -1 := by unfold wIdx; rw [if_neg c]
      refine V_al0n dX6_readWord_85 ?_
      refine V_il1n dX6_readWord_86 ?_
      refine V_bipush dX6_readWord_87 rfl ?_
      refine V_icmp_gt (tgt := 97) dX6_readWord_89 rfl (by unfold ri; omega) (by unfold ri; omega) (fun b89 => ?_) (fun b89 => ?_)
      · refine V_bipush dX6_readWord_97 rfl ?_
        refine V_putI kk4 (by decide) fl_X6_18 rfl dX6_readWord_99 ?_
        refine V_al0n dX6_readWord_102 ?_
        refine V_getI kk4 (by decide) fl_X6_18 u2_s dX6_readWord_103 ?_
        refine V_bipush dX6_readWord_106 rfl ?_
        refine V_icmp_ne (tgt := 115) dX6_readWord_108 rfl (by unfold ri; omega) (by unfold ri; omega) (fun b108 => ?_) (fun b108 => ?_)
        · exact V_return rfl ⟨rfl, rfl, k1.u (by omega), ⟨by rw [u2_o (by omega), e4, h4]; rfl, by rw [u2_o (by omega), e2]; rfl, by show TKv (if 0 ≤ wIdx tp a b then 1 else if 6 < b - a then 6 else 2) (if 0 ≤ wIdx tp a b then wIdx tp a b else if 6 < b - a then -1 else pkd tp a b) _ _ _; rw [ew, if_neg (by omega), if_pos (by omega), u2_s, u2_o (by omega), u2_o (by omega), e6, h6]; exact ⟨fun q => by omega, fun q => by omega, fun q => by omega, fun q => by omega, fun q => by omega, fun q => by omega, fun _ => ⟨rfl, rfl⟩⟩⟩, rfl⟩ dX6_readWord_115
        · exfalso; omega
      · exfalso; omega
  have h7 := w_rw7 (Q := fun r ρ' f' g' => r = none ∧ ρ' = ρ ∧ KT4 f f' ∧ TKc (wrdT tp a b) f' ∧ g' = g) hρ hT hb.symm has h85 a (by omega) (u2 f 4 5 0) (KT4.rf.u (by omega)) (u2_n (by omega) h2) (by rw [u2_o (by omega)]) (by rw [u2_o (by omega)]) (by rw [u2_s, Nat.sub_self]; rfl)
  rw [Nat.sub_self] at h7
  refine Ct.ofV (by decide) rfl (Nat.le_of_ble_eq_true rfl) ?_
  refine V_iconst dX6_readWord_0 ?_
  refine V_is1n dX6_readWord_1 (by decide) rfl ?_
  refine V_al0n dX6_readWord_2 ?_
  refine V_iconst dX6_readWord_3 ?_
  refine V_putI kk4 (by decide) fl_X6_24 rfl dX6_readWord_4 ?_
  exact h7
/-- numbers the same up to 99999, else both beyond -/
def NEq (V v : Int) : Prop := (0 ≤ V ∧ V ≤ 1000000) ∧ ((V = v ∧ v ≤ 99999) ∨ (99999 < V ∧ 99999 < v))
theorem w_rn10 {Q : QT} {f0 : IT} (hρ : Fx ρ) (hT : CTp tp s f0) {a b : Nat} {W : Int} (hb : b ≤ s)
    (hX : ∀ (f : IT) (V : Int), KT4 f0 f → f 4 2 = (b : Int) → f 4 3 = f0 4 3 → f 4 4 = f0 4 4 → f 4 6 = f0 4 6 → f 4 5 = V → NEq V W → Q none ρ f g)
    (q : Nat) (hq : q ≤ b) (hend : b = run1 isG tp (s - q) q) (v V : Int) (hv : NEq V v) (hW : numV tp (s - q) q v = W) (f : IT) (hf : KT4 f0 f) (h2 : f 4 2 = (q : Int)) (h3 : f 4 3 = f0 4 3) (h4 : f 4 4 = f0 4 4) (h6 : f 4 6 = f0 4 6) (h5 : f 4 5 = V) :
    V_X6_readNumber Q 10 [.ref 4] [] ρ f g := by
  have hT1 := hT.kt hf
  obtain ⟨t1, t2, t3, t4⟩ := hT1
  by_cases c : q = s
  · subst c
    rw [Nat.sub_self] at hend hW
    simp only [run1] at hend
    simp only [numV] at hW
    subst hW
    refine V_al0n dX6_readNumber_10 ?_
    refine V_getI kk4 (by decide) fl_X6_15 h2 dX6_readNumber_11 ?_
    refine V_al0n dX6_readNumber_14 ?_
    refine V_getI kk4 (by decide) fl_X6_9 t2 dX6_readNumber_15 ?_
    refine V_icmp_ge (tgt := 78) dX6_readNumber_18 rfl (by unfold ri; omega) (by unfold ri; omega) (fun b18 => ?_) (fun b18 => ?_)
    · exact V_return rfl (hX f V hf (h2.trans (by omega)) h3 h4 h6 h5 hv) dX6_readNumber_78
    · exfalso; omega
  · have hbq := t4 q (by omega)
    rw [show s - q = (s - (q + 1)) + 1 by omega] at hend hW
    simp only [run1] at hend
    simp only [numV] at hW
    by_cases e : isG (tp q) = true
    · rw [if_pos e] at hend hW
      have hg := isG_iff.mp e
      have hle := run1_le (P := isG) (tp := tp) (s - (q + 1)) (q + 1)
      have eq1 : ((q : Int) + 1) = ((q + 1 : Nat) : Int) := by omega
      refine V_al0n dX6_readNumber_10 ?_
      refine V_getI kk4 (by decide) fl_X6_15 h2 dX6_readNumber_11 ?_
      refine V_al0n dX6_readNumber_14 ?_
      refine V_getI kk4 (by decide) fl_X6_9 t2 dX6_readNumber_15 ?_
      refine V_icmp_ge (tgt := 78) dX6_readNumber_18 rfl (by unfold ri; omega) (by unfold ri; omega) (fun b18 => ?_) (fun b18 => ?_)
      · exfalso; omega
      · refine V_al0n dX6_readNumber_21 ?_
        refine V_getR kk4 (by decide) fl_X6_30 (fx_4_0 hρ) dX6_readNumber_22 ?_
        refine V_al0n dX6_readNumber_25 ?_
        refine V_getI kk4 (by decide) fl_X6_15 h2 dX6_readNumber_26 ?_
        refine V_iald (k := q) kk1 (by decide) (by first | rfl | omega) (by omega) (by first | decide | assumption | omega) (t3 q (by omega)) dX6_readNumber_29 ?_
        refine V_callS (as := [_]) ml_X6_47 sm_X6_isDigit dX6_readNumber_30 rfl rfl (by decide) (by decide) (Nat.le_of_ble_eq_true rfl) (by decide) (by decide) rfl (c_xDigit (n := tp q) (by unfold ri; omega)) ?_
        refine pq4 ?_
        refine V_bt (tgt := 78) dX6_readNumber_33 rfl (fun b33 => ?_) (fun b33 => ?_)
        · rw [e] at b33; cases b33
        · refine V_al0n dX6_readNumber_36 ?_
          refine V_al0n dX6_readNumber_37 ?_
          refine V_getI kk4 (by decide) fl_X6_24 h5 dX6_readNumber_38 ?_
          refine V_bipush dX6_readNumber_41 rfl ?_
          refine V_imul dX6_readNumber_43 ?_
          refine V_al0n dX6_readNumber_44 ?_
          refine V_getR kk4 (by decide) fl_X6_30 (fx_4_0 hρ) dX6_readNumber_45 ?_
          refine V_al0n dX6_readNumber_48 ?_
          refine V_getI kk4 (by decide) fl_X6_15 h2 dX6_readNumber_49 ?_
          refine V_iald (k := q) kk1 (by decide) (by first | rfl | omega) (by omega) (by first | decide | assumption | omega) (t3 q (by omega)) dX6_readNumber_52 ?_
          refine V_iadd dX6_readNumber_53 ?_
          refine V_bipush dX6_readNumber_54 rfl ?_
          refine V_isub dX6_readNumber_56 ?_
          refine V_ldc (a := 1000000) kc_X6_62 rfl dX6_readNumber_57 ?_
          refine V_mmin ml_X6_34 sm_J9_min_7cf53 dX6_readNumber_59 (by have := hv.1; unfold ri; omega) (by unfold ri; omega) (by decide) (Nat.le_of_ble_eq_true rfl) (by decide) (by decide) ?_
          refine V_putI kk4 (by decide) fl_X6_24 rfl dX6_readNumber_62 ?_
          refine V_al0n dX6_readNumber_65 ?_
          refine V_dup dX6_readNumber_66 rfl ?_
          refine V_getI kk4 (by decide) fl_X6_15 (u2_n (by omega) h2) dX6_readNumber_67 ?_
          refine V_iconst dX6_readNumber_70 ?_
          refine V_iadd dX6_readNumber_71 ?_
          refine V_putI kk4 (by decide) fl_X6_15 rfl dX6_readNumber_72 ?_
          refine V_goto (tgt := 10) dX6_readNumber_75 rfl ?_
          rw [eq1]
          exact w_rn10 hρ hT (a := a) hb hX (q + 1) (by omega) hend _ (if 1000000 < V * 10 + tp q - 48 then 1000000 else V * 10 + tp q - 48) (by unfold NEq at hv ⊢; (repeat' split) <;> omega) hW _ ((hf.u (by omega)).u (by omega)) u2_s (by rw [u2_o (by omega), u2_o (by omega)]; exact h3) (by rw [u2_o (by omega), u2_o (by omega)]; exact h4) (by rw [u2_o (by omega), u2_o (by omega)]; exact h6) (by rw [u2_o (by omega), u2_s])
    · rw [if_neg e] at hend hW
      subst hW
      have e := Bool.eq_false_iff.mpr e
      refine V_al0n dX6_readNumber_10 ?_
      refine V_getI kk4 (by decide) fl_X6_15 h2 dX6_readNumber_11 ?_
      refine V_al0n dX6_readNumber_14 ?_
      refine V_getI kk4 (by decide) fl_X6_9 t2 dX6_readNumber_15 ?_
      refine V_icmp_ge (tgt := 78) dX6_readNumber_18 rfl (by unfold ri; omega) (by unfold ri; omega) (fun b18 => ?_) (fun b18 => ?_)
      · exfalso; omega
      · refine V_al0n dX6_readNumber_21 ?_
        refine V_getR kk4 (by decide) fl_X6_30 (fx_4_0 hρ) dX6_readNumber_22 ?_
        refine V_al0n dX6_readNumber_25 ?_
        refine V_getI kk4 (by decide) fl_X6_15 h2 dX6_readNumber_26 ?_
        refine V_iald (k := q) kk1 (by decide) (by first | rfl | omega) (by omega) (by first | decide | assumption | omega) (t3 q (by omega)) dX6_readNumber_29 ?_
        refine V_callS (as := [_]) ml_X6_47 sm_X6_isDigit dX6_readNumber_30 rfl rfl (by decide) (by decide) (Nat.le_of_ble_eq_true rfl) (by decide) (by decide) rfl (c_xDigit (n := tp q) (by unfold ri; omega)) ?_
        refine pq4 ?_
        refine V_bt (tgt := 78) dX6_readNumber_33 rfl (fun b33 => ?_) (fun b33 => ?_)
        · exact V_return rfl (hX f V hf (h2.trans (by omega)) h3 h4 h6 h5 hv) dX6_readNumber_78
        · rw [e] at b33; cases b33
termination_by s - q
theorem c_readNumber {f : IT} (hρ : Fx ρ) (hT : CTp tp s f) {a : Nat} (has : a < s) (h2 : f 4 2 = (a : Int)) (h4 : f 4 4 = (a : Int)) (h6 : f 4 6 = -1) : C_X6_readNumber [.ref 4] ρ f g (fun r ρ' f' g' => r = none ∧ ρ' = ρ ∧ KT4 f f' ∧ TKc (a, run1 isG tp (s - a) a, 3, numV tp (s - a) a 0) f' ∧ g' = g) := by
  have hle := run1_le (P := isG) (tp := tp) (s - a) a
  have hT1 : CTp tp s (u2 (u2 f 4 3 0) 4 5 0) := hT.kt ((KT4.rf.u (by omega)).u (by omega))
  have h10 := w_rn10 (ρ := ρ) (g := g) (Q := fun r ρ' f' g' => r = none ∧ ρ' = ρ ∧ KT4 f f' ∧ TKc (a, run1 isG tp (s - a) a, 3, numV tp (s - a) a 0) f' ∧ g' = g) hρ hT1 (a := a) (b := run1 isG tp (s - a) a) (W := numV tp (s - a) a 0) (by omega) (fun f' V a1 a2 a3 a4 a6 a5 a7 => ⟨rfl, rfl, ((KT4.rf.u (by omega)).u (by omega)).tr a1, ⟨by rw [a4, u2_o (by omega), u2_o (by omega)]; exact h4, a2, by
    show TKv 3 (numV tp (s - a) a 0) (f' 4 3) (f' 4 5) (f' 4 6)
    rw [a3, a5, a6, u2_o (by omega), u2_s, u2_o (by omega), u2_o (by omega), h6]
    exact ⟨fun q => by omega, fun q => by omega, fun q => by omega, fun _ => ⟨rfl, rfl, a7.2, a7.1⟩, fun q => by omega, fun q => by omega, fun q => by omega⟩⟩, rfl⟩) a (by omega) rfl 0 0 (by unfold NEq; omega) rfl _ KT4.rf (by rw [u2_o (by omega), u2_o (by omega)]; exact h2) rfl rfl rfl u2_s
  refine Ct.ofV (by decide) rfl (Nat.le_of_ble_eq_true rfl) ?_
  refine V_al0n dX6_readNumber_0 ?_
  refine V_iconst dX6_readNumber_1 ?_
  refine V_putI kk4 (by decide) fl_X6_18 rfl dX6_readNumber_2 ?_
  refine V_al0n dX6_readNumber_5 ?_
  refine V_iconst dX6_readNumber_6 ?_
  refine V_putI kk4 (by decide) fl_X6_24 rfl dX6_readNumber_7 ?_
  exact h10
end CTOK2

