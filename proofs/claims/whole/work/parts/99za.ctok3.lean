section CTOK3
variable {ρ : RT} {g : JT} {tp : Nat → Int} {s : Nat}
theorem c_readSign {f : IT} (hρ : Fx ρ) (hT : CTp tp s f) {a : Nat} (has : a < s) (h2 : f 4 2 = (a : Int)) (h4 : f 4 4 = (a : Int)) (h6 : f 4 6 = -1) (hW : isW (tp a) = false) : C_X6_readSign [.ref 4] ρ f g (fun r ρ' f' g' => r = none ∧ ρ' = ρ ∧ KT4 f f' ∧ TKc (sgnT tp s a) f' ∧ g' = g) := by
  have hT0 := hT
  obtain ⟨t1, t2, t3, t4⟩ := hT
  have hc := t4 a (by omega)
  have hT1 : CTp tp s (u2 f 4 2 ((a : Int) + 1)) := hT0.kt (KT4.rf.u (by omega))
  have e21 : (u2 f 4 2 ((a : Int) + 1)) 4 2 = ((a + 1 : Nat) : Int) := by rw [u2_s]; omega
  have tk := fun (c : Int) (rc : ri c) => c_xtake (ρ := ρ) (g := g) hρ hT1 (p := a + 1) (by omega) e21 (c := c) rc
  have eth : nxc tp s a = if a + 1 < s then tp (a + 1) else 0 := rfl
  have hth : 0 ≤ nxc tp s a ∧ nxc tp s a ≤ 255 := by rw [eth]; split; exact t4 _ (by omega); omega
  have hcond : ∀ c : Int, c ≠ 0 → ((a + 1 < s ∧ tp (a + 1) = c) ↔ nxc tp s a = c) := fun c hc0 => by
    rw [eth]
    split
    · exact ⟨fun z => z.2, fun z => ⟨by omega, z⟩⟩
    · exact ⟨fun z => by omega, fun z => by omega⟩
  generalize hth2 : nxc tp s a = th at *
  have esg : sgnT tp s a = sgnC (tp a) th a := by unfold sgnT; rw [hth2]
  rw [esg]
  generalize hca : tp a = c at *
  -- the end: kind k with the place behind it
  have fin : ∀ (F : IT) (K nx : Int), KT4 f F → F 4 2 = nx → F 4 3 = K → F 4 4 = f 4 4 → F 4 6 = f 4 6 → nx = ((sgnC c th a).2.1 : Int) → ((sgnC c th a).2.2.1 = 4 → K = csK (sgnC c th a).2.2.2) → ((sgnC c th a).2.2.1 = 5 → K = 5 + (sgnC c th a).2.2.2) → ((sgnC c th a).2.2.1 = 6 → K = 19) → ((none : Option Value) = none ∧ ρ = ρ ∧ KT4 f F ∧ TKc (sgnC c th a) F ∧ g = g) := fun F K nx a1 a2 a3 a4 a5 a6 a7 a8 a9 => by
    refine ⟨rfl, rfl, a1, ⟨by rw [a4, h4]; rfl, by rw [a2, a6], ?_⟩, rfl⟩
    rw [a3, a5, h6]
    have hkk : (sgnC c th a).2.2.1 = 4 ∨ (sgnC c th a).2.2.1 = 5 ∨ (sgnC c th a).2.2.1 = 6 := by unfold sgnC; simp only; (repeat' split) <;> omega
    exact ⟨fun q => by omega, fun q => by omega, fun q => by omega, fun q => by omega, fun q => ⟨a7 q, rfl⟩, fun q => ⟨a8 q, rfl⟩, fun q => ⟨a9 q, rfl⟩⟩
  have fin1 : ∀ K : Int, c ≠ 60 → c ≠ 62 → c ≠ 61 → K = csK c → ((none : Option Value) = none ∧ ρ = ρ ∧ KT4 f (u2 (u2 f 4 2 ((a : Int) + 1)) 4 3 K) ∧ TKc (sgnC c th a) (u2 (u2 f 4 2 ((a : Int) + 1)) 4 3 K) ∧ g = g) := fun K z1 z2 z3 zK => by
    refine fin _ K ((a : Int) + 1) ((KT4.rf.u (by omega)).u (by omega)) (by rw [u2_o (by omega), u2_s]) u2_s (by rw [u2_o (by omega), u2_o (by omega)]) (by rw [u2_o (by omega), u2_o (by omega)]) ?_ ?_ ?_ ?_
    · unfold sgnC; simp only; rw [if_neg (by omega)]; omega
    · intro _; rw [zK]; unfold sgnC; simp only; rw [if_neg z3, if_neg z1, if_neg z2]
    · intro z; unfold sgnC at z; simp only at z; rw [if_neg (by omega)] at z; split at z <;> omega
    · intro z; unfold sgnC at z; simp only at z; rw [if_neg (by omega)] at z; rw [zK]; unfold csK; (repeat' split) <;> first | rfl | (exfalso; split at z <;> omega)
  refine Ct.ofV (by decide) rfl (Nat.le_of_ble_eq_true rfl) ?_
  refine V_al0n dX6_readSign_0 ?_
  refine V_getR kk4 (by decide) fl_X6_30 (fx_4_0 hρ) dX6_readSign_1 ?_
  refine V_al0n dX6_readSign_4 ?_
  refine V_getI kk4 (by decide) fl_X6_15 h2 dX6_readSign_5 ?_
  refine V_iald (k := a) kk1 (by decide) (by first | rfl | omega) (by omega) (by first | decide | assumption | omega) ((t3 a has).trans hca) dX6_readSign_8 ?_
  refine V_is1n dX6_readSign_9 (by decide) rfl ?_
  refine V_al0n dX6_readSign_10 ?_
  refine V_dup dX6_readSign_11 rfl ?_
  refine V_getI kk4 (by decide) fl_X6_15 h2 dX6_readSign_12 ?_
  refine V_iconst dX6_readSign_15 ?_
  refine V_iadd dX6_readSign_16 ?_
  refine V_putI kk4 (by decide) fl_X6_15 rfl dX6_readSign_17 ?_
  refine V_il1n dX6_readSign_20 ?_
  rcases (show c = 40 ∨ c = 41 ∨ c = 42 ∨ c = 43 ∨ c = 44 ∨ c = 45 ∨ c = 46 ∨ c = 47 ∨ c = 48 ∨ c = 49 ∨ c = 50 ∨ c = 51 ∨ c = 52 ∨ c = 53 ∨ c = 54 ∨ c = 55 ∨ c = 56 ∨ c = 57 ∨ c = 58 ∨ c = 59 ∨ c = 60 ∨ c = 61 ∨ c = 62 ∨ (c < 40 ∨ 62 < c) by omega) with ec | ec | ec | ec | ec | ec | ec | ec | ec | ec | ec | ec | ec | ec | ec | ec | ec | ec | ec | ec | ec | ec | ec | ec
  · refine V_tabIn (tgt := 232) (i := 0) dX6_readSign_21 (by first | rfl | omega) (by decide) (by first | decide | assumption | (unfold ri at *; omega)) rfl rfl ?_
    refine V_al0n dX6_readSign_232 ?_
    refine V_bipush dX6_readSign_233 rfl ?_
    refine V_putI kk4 (by decide) fl_X6_18 rfl dX6_readSign_235 ?_
    refine V_goto (tgt := 265) dX6_readSign_238 rfl ?_
    first | exact V_return rfl (fin1 _ (by omega) (by omega) (by omega) (by unfold csK; rw [ec]; rfl)) dX6_readSign_265 | exact V_return rfl (fin1 _ (by omega) (by omega) (by omega) (by unfold csK; (repeat' split) <;> first | rfl | (exfalso; omega))) dX6_readSign_265 | exact V_return rfl (fin _ 7 ((a : Int) + 1) ((KT4.rf.u (by omega)).u (by omega)) (by rw [u2_o (by omega), u2_s]) u2_s (by rw [u2_o (by omega), u2_o (by omega)]) (by rw [u2_o (by omega), u2_o (by omega)]) (by unfold sgnC; simp only; rw [if_neg (by omega)]; omega) (by unfold sgnC; simp only; rw [if_pos (by omega)]; omega) (by intro _; unfold sgnC; simp only; rw [if_pos ec]; rfl) (by unfold sgnC; simp only; rw [if_pos (by omega)]; omega)) dX6_readSign_265
  · refine V_tabIn (tgt := 241) (i := 1) dX6_readSign_21 (by first | rfl | omega) (by decide) (by first | decide | assumption | (unfold ri at *; omega)) rfl rfl ?_
    refine V_al0n dX6_readSign_241 ?_
    refine V_bipush dX6_readSign_242 rfl ?_
    refine V_putI kk4 (by decide) fl_X6_18 rfl dX6_readSign_244 ?_
    refine V_goto (tgt := 265) dX6_readSign_247 rfl ?_
    first | exact V_return rfl (fin1 _ (by omega) (by omega) (by omega) (by unfold csK; rw [ec]; rfl)) dX6_readSign_265 | exact V_return rfl (fin1 _ (by omega) (by omega) (by omega) (by unfold csK; (repeat' split) <;> first | rfl | (exfalso; omega))) dX6_readSign_265 | exact V_return rfl (fin _ 7 ((a : Int) + 1) ((KT4.rf.u (by omega)).u (by omega)) (by rw [u2_o (by omega), u2_s]) u2_s (by rw [u2_o (by omega), u2_o (by omega)]) (by rw [u2_o (by omega), u2_o (by omega)]) (by unfold sgnC; simp only; rw [if_neg (by omega)]; omega) (by unfold sgnC; simp only; rw [if_pos (by omega)]; omega) (by intro _; unfold sgnC; simp only; rw [if_pos ec]; rfl) (by unfold sgnC; simp only; rw [if_pos (by omega)]; omega)) dX6_readSign_265
  · refine V_tabIn (tgt := 214) (i := 2) dX6_readSign_21 (by first | rfl | omega) (by decide) (by first | decide | assumption | (unfold ri at *; omega)) rfl rfl ?_
    refine V_al0n dX6_readSign_214 ?_
    refine V_bipush dX6_readSign_215 rfl ?_
    refine V_putI kk4 (by decide) fl_X6_18 rfl dX6_readSign_217 ?_
    refine V_goto (tgt := 265) dX6_readSign_220 rfl ?_
    first | exact V_return rfl (fin1 _ (by omega) (by omega) (by omega) (by unfold csK; rw [ec]; rfl)) dX6_readSign_265 | exact V_return rfl (fin1 _ (by omega) (by omega) (by omega) (by unfold csK; (repeat' split) <;> first | rfl | (exfalso; omega))) dX6_readSign_265 | exact V_return rfl (fin _ 7 ((a : Int) + 1) ((KT4.rf.u (by omega)).u (by omega)) (by rw [u2_o (by omega), u2_s]) u2_s (by rw [u2_o (by omega), u2_o (by omega)]) (by rw [u2_o (by omega), u2_o (by omega)]) (by unfold sgnC; simp only; rw [if_neg (by omega)]; omega) (by unfold sgnC; simp only; rw [if_pos (by omega)]; omega) (by intro _; unfold sgnC; simp only; rw [if_pos ec]; rfl) (by unfold sgnC; simp only; rw [if_pos (by omega)]; omega)) dX6_readSign_265
  · refine V_tabIn (tgt := 196) (i := 3) dX6_readSign_21 (by first | rfl | omega) (by decide) (by first | decide | assumption | (unfold ri at *; omega)) rfl rfl ?_
    refine V_al0n dX6_readSign_196 ?_
    refine V_bipush dX6_readSign_197 rfl ?_
    refine V_putI kk4 (by decide) fl_X6_18 rfl dX6_readSign_199 ?_
    refine V_goto (tgt := 265) dX6_readSign_202 rfl ?_
    first | exact V_return rfl (fin1 _ (by omega) (by omega) (by omega) (by unfold csK; rw [ec]; rfl)) dX6_readSign_265 | exact V_return rfl (fin1 _ (by omega) (by omega) (by omega) (by unfold csK; (repeat' split) <;> first | rfl | (exfalso; omega))) dX6_readSign_265 | exact V_return rfl (fin _ 7 ((a : Int) + 1) ((KT4.rf.u (by omega)).u (by omega)) (by rw [u2_o (by omega), u2_s]) u2_s (by rw [u2_o (by omega), u2_o (by omega)]) (by rw [u2_o (by omega), u2_o (by omega)]) (by unfold sgnC; simp only; rw [if_neg (by omega)]; omega) (by unfold sgnC; simp only; rw [if_pos (by omega)]; omega) (by intro _; unfold sgnC; simp only; rw [if_pos ec]; rfl) (by unfold sgnC; simp only; rw [if_pos (by omega)]; omega)) dX6_readSign_265
  · refine V_tabIn (tgt := 259) (i := 4) dX6_readSign_21 (by first | rfl | omega) (by decide) (by first | decide | assumption | (unfold ri at *; omega)) rfl rfl ?_
    refine V_al0n dX6_readSign_259 ?_
    refine V_bipush dX6_readSign_260 rfl ?_
    refine V_putI kk4 (by decide) fl_X6_18 rfl dX6_readSign_262 ?_
    first | exact V_return rfl (fin1 _ (by omega) (by omega) (by omega) (by unfold csK; rw [ec]; rfl)) dX6_readSign_265 | exact V_return rfl (fin1 _ (by omega) (by omega) (by omega) (by unfold csK; (repeat' split) <;> first | rfl | (exfalso; omega))) dX6_readSign_265 | exact V_return rfl (fin _ 7 ((a : Int) + 1) ((KT4.rf.u (by omega)).u (by omega)) (by rw [u2_o (by omega), u2_s]) u2_s (by rw [u2_o (by omega), u2_o (by omega)]) (by rw [u2_o (by omega), u2_o (by omega)]) (by unfold sgnC; simp only; rw [if_neg (by omega)]; omega) (by unfold sgnC; simp only; rw [if_pos (by omega)]; omega) (by intro _; unfold sgnC; simp only; rw [if_pos ec]; rfl) (by unfold sgnC; simp only; rw [if_pos (by omega)]; omega)) dX6_readSign_265
  · refine V_tabIn (tgt := 205) (i := 5) dX6_readSign_21 (by first | rfl | omega) (by decide) (by first | decide | assumption | (unfold ri at *; omega)) rfl rfl ?_
    refine V_al0n dX6_readSign_205 ?_
    refine V_bipush dX6_readSign_206 rfl ?_
    refine V_putI kk4 (by decide) fl_X6_18 rfl dX6_readSign_208 ?_
    refine V_goto (tgt := 265) dX6_readSign_211 rfl ?_
    first | exact V_return rfl (fin1 _ (by omega) (by omega) (by omega) (by unfold csK; rw [ec]; rfl)) dX6_readSign_265 | exact V_return rfl (fin1 _ (by omega) (by omega) (by omega) (by unfold csK; (repeat' split) <;> first | rfl | (exfalso; omega))) dX6_readSign_265 | exact V_return rfl (fin _ 7 ((a : Int) + 1) ((KT4.rf.u (by omega)).u (by omega)) (by rw [u2_o (by omega), u2_s]) u2_s (by rw [u2_o (by omega), u2_o (by omega)]) (by rw [u2_o (by omega), u2_o (by omega)]) (by unfold sgnC; simp only; rw [if_neg (by omega)]; omega) (by unfold sgnC; simp only; rw [if_pos (by omega)]; omega) (by intro _; unfold sgnC; simp only; rw [if_pos ec]; rfl) (by unfold sgnC; simp only; rw [if_pos (by omega)]; omega)) dX6_readSign_265
  · refine V_tabIn (tgt := 259) (i := 6) dX6_readSign_21 (by first | rfl | omega) (by decide) (by first | decide | assumption | (unfold ri at *; omega)) rfl rfl ?_
    refine V_al0n dX6_readSign_259 ?_
    refine V_bipush dX6_readSign_260 rfl ?_
    refine V_putI kk4 (by decide) fl_X6_18 rfl dX6_readSign_262 ?_
    first | exact V_return rfl (fin1 _ (by omega) (by omega) (by omega) (by unfold csK; rw [ec]; rfl)) dX6_readSign_265 | exact V_return rfl (fin1 _ (by omega) (by omega) (by omega) (by unfold csK; (repeat' split) <;> first | rfl | (exfalso; omega))) dX6_readSign_265 | exact V_return rfl (fin _ 7 ((a : Int) + 1) ((KT4.rf.u (by omega)).u (by omega)) (by rw [u2_o (by omega), u2_s]) u2_s (by rw [u2_o (by omega), u2_o (by omega)]) (by rw [u2_o (by omega), u2_o (by omega)]) (by unfold sgnC; simp only; rw [if_neg (by omega)]; omega) (by unfold sgnC; simp only; rw [if_pos (by omega)]; omega) (by intro _; unfold sgnC; simp only; rw [if_pos ec]; rfl) (by unfold sgnC; simp only; rw [if_pos (by omega)]; omega)) dX6_readSign_265
  · refine V_tabIn (tgt := 223) (i := 7) dX6_readSign_21 (by first | rfl | omega) (by decide) (by first | decide | assumption | (unfold ri at *; omega)) rfl rfl ?_
    refine V_al0n dX6_readSign_223 ?_
    refine V_bipush dX6_readSign_224 rfl ?_
    refine V_putI kk4 (by decide) fl_X6_18 rfl dX6_readSign_226 ?_
    refine V_goto (tgt := 265) dX6_readSign_229 rfl ?_
    first | exact V_return rfl (fin1 _ (by omega) (by omega) (by omega) (by unfold csK; rw [ec]; rfl)) dX6_readSign_265 | exact V_return rfl (fin1 _ (by omega) (by omega) (by omega) (by unfold csK; (repeat' split) <;> first | rfl | (exfalso; omega))) dX6_readSign_265 | exact V_return rfl (fin _ 7 ((a : Int) + 1) ((KT4.rf.u (by omega)).u (by omega)) (by rw [u2_o (by omega), u2_s]) u2_s (by rw [u2_o (by omega), u2_o (by omega)]) (by rw [u2_o (by omega), u2_o (by omega)]) (by unfold sgnC; simp only; rw [if_neg (by omega)]; omega) (by unfold sgnC; simp only; rw [if_pos (by omega)]; omega) (by intro _; unfold sgnC; simp only; rw [if_pos ec]; rfl) (by unfold sgnC; simp only; rw [if_pos (by omega)]; omega)) dX6_readSign_265
  · refine V_tabIn (tgt := 259) (i := 8) dX6_readSign_21 (by first | rfl | omega) (by decide) (by first | decide | assumption | (unfold ri at *; omega)) rfl rfl ?_
    refine V_al0n dX6_readSign_259 ?_
    refine V_bipush dX6_readSign_260 rfl ?_
    refine V_putI kk4 (by decide) fl_X6_18 rfl dX6_readSign_262 ?_
    first | exact V_return rfl (fin1 _ (by omega) (by omega) (by omega) (by unfold csK; rw [ec]; rfl)) dX6_readSign_265 | exact V_return rfl (fin1 _ (by omega) (by omega) (by omega) (by unfold csK; (repeat' split) <;> first | rfl | (exfalso; omega))) dX6_readSign_265 | exact V_return rfl (fin _ 7 ((a : Int) + 1) ((KT4.rf.u (by omega)).u (by omega)) (by rw [u2_o (by omega), u2_s]) u2_s (by rw [u2_o (by omega), u2_o (by omega)]) (by rw [u2_o (by omega), u2_o (by omega)]) (by unfold sgnC; simp only; rw [if_neg (by omega)]; omega) (by unfold sgnC; simp only; rw [if_pos (by omega)]; omega) (by intro _; unfold sgnC; simp only; rw [if_pos ec]; rfl) (by unfold sgnC; simp only; rw [if_pos (by omega)]; omega)) dX6_readSign_265
  · refine V_tabIn (tgt := 259) (i := 9) dX6_readSign_21 (by first | rfl | omega) (by decide) (by first | decide | assumption | (unfold ri at *; omega)) rfl rfl ?_
    refine V_al0n dX6_readSign_259 ?_
    refine V_bipush dX6_readSign_260 rfl ?_
    refine V_putI kk4 (by decide) fl_X6_18 rfl dX6_readSign_262 ?_
    first | exact V_return rfl (fin1 _ (by omega) (by omega) (by omega) (by unfold csK; rw [ec]; rfl)) dX6_readSign_265 | exact V_return rfl (fin1 _ (by omega) (by omega) (by omega) (by unfold csK; (repeat' split) <;> first | rfl | (exfalso; omega))) dX6_readSign_265 | exact V_return rfl (fin _ 7 ((a : Int) + 1) ((KT4.rf.u (by omega)).u (by omega)) (by rw [u2_o (by omega), u2_s]) u2_s (by rw [u2_o (by omega), u2_o (by omega)]) (by rw [u2_o (by omega), u2_o (by omega)]) (by unfold sgnC; simp only; rw [if_neg (by omega)]; omega) (by unfold sgnC; simp only; rw [if_pos (by omega)]; omega) (by intro _; unfold sgnC; simp only; rw [if_pos ec]; rfl) (by unfold sgnC; simp only; rw [if_pos (by omega)]; omega)) dX6_readSign_265
  · refine V_tabIn (tgt := 259) (i := 10) dX6_readSign_21 (by first | rfl | omega) (by decide) (by first | decide | assumption | (unfold ri at *; omega)) rfl rfl ?_
    refine V_al0n dX6_readSign_259 ?_
    refine V_bipush dX6_readSign_260 rfl ?_
    refine V_putI kk4 (by decide) fl_X6_18 rfl dX6_readSign_262 ?_
    first | exact V_return rfl (fin1 _ (by omega) (by omega) (by omega) (by unfold csK; rw [ec]; rfl)) dX6_readSign_265 | exact V_return rfl (fin1 _ (by omega) (by omega) (by omega) (by unfold csK; (repeat' split) <;> first | rfl | (exfalso; omega))) dX6_readSign_265 | exact V_return rfl (fin _ 7 ((a : Int) + 1) ((KT4.rf.u (by omega)).u (by omega)) (by rw [u2_o (by omega), u2_s]) u2_s (by rw [u2_o (by omega), u2_o (by omega)]) (by rw [u2_o (by omega), u2_o (by omega)]) (by unfold sgnC; simp only; rw [if_neg (by omega)]; omega) (by unfold sgnC; simp only; rw [if_pos (by omega)]; omega) (by intro _; unfold sgnC; simp only; rw [if_pos ec]; rfl) (by unfold sgnC; simp only; rw [if_pos (by omega)]; omega)) dX6_readSign_265
  · refine V_tabIn (tgt := 259) (i := 11) dX6_readSign_21 (by first | rfl | omega) (by decide) (by first | decide | assumption | (unfold ri at *; omega)) rfl rfl ?_
    refine V_al0n dX6_readSign_259 ?_
    refine V_bipush dX6_readSign_260 rfl ?_
    refine V_putI kk4 (by decide) fl_X6_18 rfl dX6_readSign_262 ?_
    first | exact V_return rfl (fin1 _ (by omega) (by omega) (by omega) (by unfold csK; rw [ec]; rfl)) dX6_readSign_265 | exact V_return rfl (fin1 _ (by omega) (by omega) (by omega) (by unfold csK; (repeat' split) <;> first | rfl | (exfalso; omega))) dX6_readSign_265 | exact V_return rfl (fin _ 7 ((a : Int) + 1) ((KT4.rf.u (by omega)).u (by omega)) (by rw [u2_o (by omega), u2_s]) u2_s (by rw [u2_o (by omega), u2_o (by omega)]) (by rw [u2_o (by omega), u2_o (by omega)]) (by unfold sgnC; simp only; rw [if_neg (by omega)]; omega) (by unfold sgnC; simp only; rw [if_pos (by omega)]; omega) (by intro _; unfold sgnC; simp only; rw [if_pos ec]; rfl) (by unfold sgnC; simp only; rw [if_pos (by omega)]; omega)) dX6_readSign_265
  · refine V_tabIn (tgt := 259) (i := 12) dX6_readSign_21 (by first | rfl | omega) (by decide) (by first | decide | assumption | (unfold ri at *; omega)) rfl rfl ?_
    refine V_al0n dX6_readSign_259 ?_
    refine V_bipush dX6_readSign_260 rfl ?_
    refine V_putI kk4 (by decide) fl_X6_18 rfl dX6_readSign_262 ?_
    first | exact V_return rfl (fin1 _ (by omega) (by omega) (by omega) (by unfold csK; rw [ec]; rfl)) dX6_readSign_265 | exact V_return rfl (fin1 _ (by omega) (by omega) (by omega) (by unfold csK; (repeat' split) <;> first | rfl | (exfalso; omega))) dX6_readSign_265 | exact V_return rfl (fin _ 7 ((a : Int) + 1) ((KT4.rf.u (by omega)).u (by omega)) (by rw [u2_o (by omega), u2_s]) u2_s (by rw [u2_o (by omega), u2_o (by omega)]) (by rw [u2_o (by omega), u2_o (by omega)]) (by unfold sgnC; simp only; rw [if_neg (by omega)]; omega) (by unfold sgnC; simp only; rw [if_pos (by omega)]; omega) (by intro _; unfold sgnC; simp only; rw [if_pos ec]; rfl) (by unfold sgnC; simp only; rw [if_pos (by omega)]; omega)) dX6_readSign_265
  · refine V_tabIn (tgt := 259) (i := 13) dX6_readSign_21 (by first | rfl | omega) (by decide) (by first | decide | assumption | (unfold ri at *; omega)) rfl rfl ?_
    refine V_al0n dX6_readSign_259 ?_
    refine V_bipush dX6_readSign_260 rfl ?_
    refine V_putI kk4 (by decide) fl_X6_18 rfl dX6_readSign_262 ?_
    first | exact V_return rfl (fin1 _ (by omega) (by omega) (by omega) (by unfold csK; rw [ec]; rfl)) dX6_readSign_265 | exact V_return rfl (fin1 _ (by omega) (by omega) (by omega) (by unfold csK; (repeat' split) <;> first | rfl | (exfalso; omega))) dX6_readSign_265 | exact V_return rfl (fin _ 7 ((a : Int) + 1) ((KT4.rf.u (by omega)).u (by omega)) (by rw [u2_o (by omega), u2_s]) u2_s (by rw [u2_o (by omega), u2_o (by omega)]) (by rw [u2_o (by omega), u2_o (by omega)]) (by unfold sgnC; simp only; rw [if_neg (by omega)]; omega) (by unfold sgnC; simp only; rw [if_pos (by omega)]; omega) (by intro _; unfold sgnC; simp only; rw [if_pos ec]; rfl) (by unfold sgnC; simp only; rw [if_pos (by omega)]; omega)) dX6_readSign_265
  · refine V_tabIn (tgt := 259) (i := 14) dX6_readSign_21 (by first | rfl | omega) (by decide) (by first | decide | assumption | (unfold ri at *; omega)) rfl rfl ?_
    refine V_al0n dX6_readSign_259 ?_
    refine V_bipush dX6_readSign_260 rfl ?_
    refine V_putI kk4 (by decide) fl_X6_18 rfl dX6_readSign_262 ?_
    first | exact V_return rfl (fin1 _ (by omega) (by omega) (by omega) (by unfold csK; rw [ec]; rfl)) dX6_readSign_265 | exact V_return rfl (fin1 _ (by omega) (by omega) (by omega) (by unfold csK; (repeat' split) <;> first | rfl | (exfalso; omega))) dX6_readSign_265 | exact V_return rfl (fin _ 7 ((a : Int) + 1) ((KT4.rf.u (by omega)).u (by omega)) (by rw [u2_o (by omega), u2_s]) u2_s (by rw [u2_o (by omega), u2_o (by omega)]) (by rw [u2_o (by omega), u2_o (by omega)]) (by unfold sgnC; simp only; rw [if_neg (by omega)]; omega) (by unfold sgnC; simp only; rw [if_pos (by omega)]; omega) (by intro _; unfold sgnC; simp only; rw [if_pos ec]; rfl) (by unfold sgnC; simp only; rw [if_pos (by omega)]; omega)) dX6_readSign_265
  · refine V_tabIn (tgt := 259) (i := 15) dX6_readSign_21 (by first | rfl | omega) (by decide) (by first | decide | assumption | (unfold ri at *; omega)) rfl rfl ?_
    refine V_al0n dX6_readSign_259 ?_
    refine V_bipush dX6_readSign_260 rfl ?_
    refine V_putI kk4 (by decide) fl_X6_18 rfl dX6_readSign_262 ?_
    first | exact V_return rfl (fin1 _ (by omega) (by omega) (by omega) (by unfold csK; rw [ec]; rfl)) dX6_readSign_265 | exact V_return rfl (fin1 _ (by omega) (by omega) (by omega) (by unfold csK; (repeat' split) <;> first | rfl | (exfalso; omega))) dX6_readSign_265 | exact V_return rfl (fin _ 7 ((a : Int) + 1) ((KT4.rf.u (by omega)).u (by omega)) (by rw [u2_o (by omega), u2_s]) u2_s (by rw [u2_o (by omega), u2_o (by omega)]) (by rw [u2_o (by omega), u2_o (by omega)]) (by unfold sgnC; simp only; rw [if_neg (by omega)]; omega) (by unfold sgnC; simp only; rw [if_pos (by omega)]; omega) (by intro _; unfold sgnC; simp only; rw [if_pos ec]; rfl) (by unfold sgnC; simp only; rw [if_pos (by omega)]; omega)) dX6_readSign_265
  · refine V_tabIn (tgt := 259) (i := 16) dX6_readSign_21 (by first | rfl | omega) (by decide) (by first | decide | assumption | (unfold ri at *; omega)) rfl rfl ?_
    refine V_al0n dX6_readSign_259 ?_
    refine V_bipush dX6_readSign_260 rfl ?_
    refine V_putI kk4 (by decide) fl_X6_18 rfl dX6_readSign_262 ?_
    first | exact V_return rfl (fin1 _ (by omega) (by omega) (by omega) (by unfold csK; rw [ec]; rfl)) dX6_readSign_265 | exact V_return rfl (fin1 _ (by omega) (by omega) (by omega) (by unfold csK; (repeat' split) <;> first | rfl | (exfalso; omega))) dX6_readSign_265 | exact V_return rfl (fin _ 7 ((a : Int) + 1) ((KT4.rf.u (by omega)).u (by omega)) (by rw [u2_o (by omega), u2_s]) u2_s (by rw [u2_o (by omega), u2_o (by omega)]) (by rw [u2_o (by omega), u2_o (by omega)]) (by unfold sgnC; simp only; rw [if_neg (by omega)]; omega) (by unfold sgnC; simp only; rw [if_pos (by omega)]; omega) (by intro _; unfold sgnC; simp only; rw [if_pos ec]; rfl) (by unfold sgnC; simp only; rw [if_pos (by omega)]; omega)) dX6_readSign_265
  · refine V_tabIn (tgt := 259) (i := 17) dX6_readSign_21 (by first | rfl | omega) (by decide) (by first | decide | assumption | (unfold ri at *; omega)) rfl rfl ?_
    refine V_al0n dX6_readSign_259 ?_
    refine V_bipush dX6_readSign_260 rfl ?_
    refine V_putI kk4 (by decide) fl_X6_18 rfl dX6_readSign_262 ?_
    first | exact V_return rfl (fin1 _ (by omega) (by omega) (by omega) (by unfold csK; rw [ec]; rfl)) dX6_readSign_265 | exact V_return rfl (fin1 _ (by omega) (by omega) (by omega) (by unfold csK; (repeat' split) <;> first | rfl | (exfalso; omega))) dX6_readSign_265 | exact V_return rfl (fin _ 7 ((a : Int) + 1) ((KT4.rf.u (by omega)).u (by omega)) (by rw [u2_o (by omega), u2_s]) u2_s (by rw [u2_o (by omega), u2_o (by omega)]) (by rw [u2_o (by omega), u2_o (by omega)]) (by unfold sgnC; simp only; rw [if_neg (by omega)]; omega) (by unfold sgnC; simp only; rw [if_pos (by omega)]; omega) (by intro _; unfold sgnC; simp only; rw [if_pos ec]; rfl) (by unfold sgnC; simp only; rw [if_pos (by omega)]; omega)) dX6_readSign_265
  · refine V_tabIn (tgt := 259) (i := 18) dX6_readSign_21 (by first | rfl | omega) (by decide) (by first | decide | assumption | (unfold ri at *; omega)) rfl rfl ?_
    refine V_al0n dX6_readSign_259 ?_
    refine V_bipush dX6_readSign_260 rfl ?_
    refine V_putI kk4 (by decide) fl_X6_18 rfl dX6_readSign_262 ?_
    first | exact V_return rfl (fin1 _ (by omega) (by omega) (by omega) (by unfold csK; rw [ec]; rfl)) dX6_readSign_265 | exact V_return rfl (fin1 _ (by omega) (by omega) (by omega) (by unfold csK; (repeat' split) <;> first | rfl | (exfalso; omega))) dX6_readSign_265 | exact V_return rfl (fin _ 7 ((a : Int) + 1) ((KT4.rf.u (by omega)).u (by omega)) (by rw [u2_o (by omega), u2_s]) u2_s (by rw [u2_o (by omega), u2_o (by omega)]) (by rw [u2_o (by omega), u2_o (by omega)]) (by unfold sgnC; simp only; rw [if_neg (by omega)]; omega) (by unfold sgnC; simp only; rw [if_pos (by omega)]; omega) (by intro _; unfold sgnC; simp only; rw [if_pos ec]; rfl) (by unfold sgnC; simp only; rw [if_pos (by omega)]; omega)) dX6_readSign_265
  · refine V_tabIn (tgt := 250) (i := 19) dX6_readSign_21 (by first | rfl | omega) (by decide) (by first | decide | assumption | (unfold ri at *; omega)) rfl rfl ?_
    refine V_al0n dX6_readSign_250 ?_
    refine V_bipush dX6_readSign_251 rfl ?_
    refine V_putI kk4 (by decide) fl_X6_18 rfl dX6_readSign_253 ?_
    refine V_goto (tgt := 265) dX6_readSign_256 rfl ?_
    first | exact V_return rfl (fin1 _ (by omega) (by omega) (by omega) (by unfold csK; rw [ec]; rfl)) dX6_readSign_265 | exact V_return rfl (fin1 _ (by omega) (by omega) (by omega) (by unfold csK; (repeat' split) <;> first | rfl | (exfalso; omega))) dX6_readSign_265 | exact V_return rfl (fin _ 7 ((a : Int) + 1) ((KT4.rf.u (by omega)).u (by omega)) (by rw [u2_o (by omega), u2_s]) u2_s (by rw [u2_o (by omega), u2_o (by omega)]) (by rw [u2_o (by omega), u2_o (by omega)]) (by unfold sgnC; simp only; rw [if_neg (by omega)]; omega) (by unfold sgnC; simp only; rw [if_pos (by omega)]; omega) (by intro _; unfold sgnC; simp only; rw [if_pos ec]; rfl) (by unfold sgnC; simp only; rw [if_pos (by omega)]; omega)) dX6_readSign_265
  · refine V_tabIn (tgt := 128) (i := 20) dX6_readSign_21 (by first | rfl | omega) (by decide) (by first | decide | assumption | (unfold ri at *; omega)) rfl rfl ?_
    refine V_al0n dX6_readSign_128 ?_
    refine V_al0n dX6_readSign_129 ?_
    refine V_bipush dX6_readSign_130 rfl ?_
    refine V_callV (as := [_]) ml_X6_63 im_X6_take se_X6_take kk4 (by decide) (by decide) dX6_readSign_132 rfl rfl (by decide) (by decide) (Nat.le_of_ble_eq_true rfl) (by decide) (by decide) rfl (tk 61 (by unfold ri; omega)) ?_
    rintro r132 ρ132 f132 g132 ⟨rfl, s132_0, x132, s132_1⟩
    obtain rfl := s132_0.symm
    obtain rfl := s132_1.symm
    refine V_bt (tgt := 143) dX6_readSign_135 rfl (fun b135 => ?_) (fun b135 => ?_)
    · have hb1 : ¬ th = 61 := fun z => by rw [decide_eq_true ((hcond 61 (by omega)).mpr z)] at b135; cases b135
      have e132 : f132 = u2 f 4 2 ((a : Int) + 1) := x132.trans (if_neg (fun z => hb1 ((hcond 61 (by omega)).mp z)))
      have tk2 := tk 62 (by unfold ri; omega)
      rw [← e132] at tk2
      refine V_al0n dX6_readSign_143 ?_
      refine V_bipush dX6_readSign_144 rfl ?_
      refine V_callV (as := [_]) ml_X6_63 im_X6_take se_X6_take kk4 (by decide) (by decide) dX6_readSign_146 rfl rfl (by decide) (by decide) (Nat.le_of_ble_eq_true rfl) (by decide) (by decide) rfl (tk2) ?_
      rintro r146 ρ146 f146 g146 ⟨rfl, s146_0, x146, s146_1⟩
      obtain rfl := s146_0.symm
      obtain rfl := s146_1.symm
      refine V_bt (tgt := 157) dX6_readSign_149 rfl (fun b149 => ?_) (fun b149 => ?_)
      · have hb2 : ¬ th = 62 := fun z => by rw [decide_eq_true ((hcond 62 (by omega)).mpr z)] at b149; cases b149
        have e146 : f146 = u2 f 4 2 ((a : Int) + 1) := (x146.trans (if_neg (fun z => hb2 ((hcond 62 (by omega)).mp z)))).trans e132
        refine V_iconst dX6_readSign_157 ?_
        refine V_putI kk4 (by decide) fl_X6_18 rfl dX6_readSign_158 ?_
        refine V_goto (tgt := 265) dX6_readSign_161 rfl ?_
        rw [e146]
        exact V_return rfl (fin _ 5 ((a : Int) + 1) ((KT4.rf.u (by omega)).u (by omega)) (by rw [u2_o (by omega), u2_s]) u2_s (by rw [u2_o (by omega), u2_o (by omega)]) (by rw [u2_o (by omega), u2_o (by omega)]) (by unfold sgnC; simp only; rw [if_neg (by omega)]; omega) (by unfold sgnC; simp only; rw [if_pos (by omega)]; omega) (by intro _; unfold sgnC; simp only; rw [if_neg (by omega), if_pos ec, if_neg hb1, if_neg hb2]; rfl) (by unfold sgnC; simp only; rw [if_pos (by omega)]; omega)) dX6_readSign_265
      · have hb2 : th = 62 := (hcond 62 (by omega)).mp (of_decide_eq_true b149)
        have e146 : f146 = u2 f132 4 2 (((a + 1 : Nat) : Int) + 1) := x146.trans (if_pos (of_decide_eq_true b149))
        refine V_bipush dX6_readSign_152 rfl ?_
        refine V_goto (tgt := 158) dX6_readSign_154 rfl ?_
        refine V_putI kk4 (by decide) fl_X6_18 rfl dX6_readSign_158 ?_
        refine V_goto (tgt := 265) dX6_readSign_161 rfl ?_
        rw [e146, e132]
        exact V_return rfl (fin _ 8 (((a + 1 : Nat) : Int) + 1) (((KT4.rf.u (by omega)).u (by omega)).u (by omega)) (by rw [u2_o (by omega), u2_s]) u2_s (by rw [u2_o (by omega), u2_o (by omega), u2_o (by omega)]) (by rw [u2_o (by omega), u2_o (by omega), u2_o (by omega)]) (by unfold sgnC; simp only; rw [if_pos (by omega)]; omega) (by unfold sgnC; simp only; rw [if_pos (by omega)]; omega) (by intro _; unfold sgnC; simp only; rw [if_neg (by omega), if_pos ec, if_neg hb1, if_pos hb2]; rfl) (by unfold sgnC; simp only; rw [if_pos (by omega)]; omega)) dX6_readSign_265
    · have hb1 : th = 61 := (hcond 61 (by omega)).mp (of_decide_eq_true b135)
      have e132 : f132 = u2 (u2 f 4 2 ((a : Int) + 1)) 4 2 (((a + 1 : Nat) : Int) + 1) := x132.trans (if_pos (of_decide_eq_true b135))
      refine V_bipush dX6_readSign_138 rfl ?_
      refine V_goto (tgt := 158) dX6_readSign_140 rfl ?_
      refine V_putI kk4 (by decide) fl_X6_18 rfl dX6_readSign_158 ?_
      refine V_goto (tgt := 265) dX6_readSign_161 rfl ?_
      rw [e132]
      exact V_return rfl (fin _ 6 (((a + 1 : Nat) : Int) + 1) (((KT4.rf.u (by omega)).u (by omega)).u (by omega)) (by rw [u2_o (by omega), u2_s]) u2_s (by rw [u2_o (by omega), u2_o (by omega), u2_o (by omega)]) (by rw [u2_o (by omega), u2_o (by omega), u2_o (by omega)]) (by unfold sgnC; simp only; rw [if_pos (by omega)]; omega) (by unfold sgnC; simp only; rw [if_pos (by omega)]; omega) (by intro _; unfold sgnC; simp only; rw [if_neg (by omega), if_pos ec, if_pos hb1]; rfl) (by unfold sgnC; simp only; rw [if_pos (by omega)]; omega)) dX6_readSign_265
  · refine V_tabIn (tgt := 187) (i := 21) dX6_readSign_21 (by first | rfl | omega) (by decide) (by first | decide | assumption | (unfold ri at *; omega)) rfl rfl ?_
    refine V_al0n dX6_readSign_187 ?_
    refine V_bipush dX6_readSign_188 rfl ?_
    refine V_putI kk4 (by decide) fl_X6_18 rfl dX6_readSign_190 ?_
    refine V_goto (tgt := 265) dX6_readSign_193 rfl ?_
    first | exact V_return rfl (fin1 _ (by omega) (by omega) (by omega) (by unfold csK; rw [ec]; rfl)) dX6_readSign_265 | exact V_return rfl (fin1 _ (by omega) (by omega) (by omega) (by unfold csK; (repeat' split) <;> first | rfl | (exfalso; omega))) dX6_readSign_265 | exact V_return rfl (fin _ 7 ((a : Int) + 1) ((KT4.rf.u (by omega)).u (by omega)) (by rw [u2_o (by omega), u2_s]) u2_s (by rw [u2_o (by omega), u2_o (by omega)]) (by rw [u2_o (by omega), u2_o (by omega)]) (by unfold sgnC; simp only; rw [if_neg (by omega)]; omega) (by unfold sgnC; simp only; rw [if_pos (by omega)]; omega) (by intro _; unfold sgnC; simp only; rw [if_pos ec]; rfl) (by unfold sgnC; simp only; rw [if_pos (by omega)]; omega)) dX6_readSign_265
  · refine V_tabIn (tgt := 164) (i := 22) dX6_readSign_21 (by first | rfl | omega) (by decide) (by first | decide | assumption | (unfold ri at *; omega)) rfl rfl ?_
    refine V_al0n dX6_readSign_164 ?_
    refine V_al0n dX6_readSign_165 ?_
    refine V_bipush dX6_readSign_166 rfl ?_
    refine V_callV (as := [_]) ml_X6_63 im_X6_take se_X6_take kk4 (by decide) (by decide) dX6_readSign_168 rfl rfl (by decide) (by decide) (Nat.le_of_ble_eq_true rfl) (by decide) (by decide) rfl (tk 61 (by unfold ri; omega)) ?_
    rintro r168 ρ168 f168 g168 ⟨rfl, s168_0, x168, s168_1⟩
    obtain rfl := s168_0.symm
    obtain rfl := s168_1.symm
    refine V_bt (tgt := 179) dX6_readSign_171 rfl (fun b171 => ?_) (fun b171 => ?_)
    · have hb1 : ¬ th = 61 := fun z => by rw [decide_eq_true ((hcond 61 (by omega)).mpr z)] at b171; cases b171
      have e168 : f168 = u2 f 4 2 ((a : Int) + 1) := x168.trans (if_neg (fun z => hb1 ((hcond 61 (by omega)).mp z)))
      refine V_bipush dX6_readSign_179 rfl ?_
      refine V_putI kk4 (by decide) fl_X6_18 rfl dX6_readSign_181 ?_
      refine V_goto (tgt := 265) dX6_readSign_184 rfl ?_
      rw [e168]
      exact V_return rfl (fin _ 10 ((a : Int) + 1) ((KT4.rf.u (by omega)).u (by omega)) (by rw [u2_o (by omega), u2_s]) u2_s (by rw [u2_o (by omega), u2_o (by omega)]) (by rw [u2_o (by omega), u2_o (by omega)]) (by unfold sgnC; simp only; rw [if_neg (by omega)]; omega) (by unfold sgnC; simp only; rw [if_pos (by omega)]; omega) (by intro _; unfold sgnC; simp only; rw [if_neg (by omega), if_neg (by omega), if_pos ec, if_neg hb1]; rfl) (by unfold sgnC; simp only; rw [if_pos (by omega)]; omega)) dX6_readSign_265
    · have hb1 : th = 61 := (hcond 61 (by omega)).mp (of_decide_eq_true b171)
      have e168 : f168 = u2 (u2 f 4 2 ((a : Int) + 1)) 4 2 (((a + 1 : Nat) : Int) + 1) := x168.trans (if_pos (of_decide_eq_true b171))
      refine V_bipush dX6_readSign_174 rfl ?_
      refine V_goto (tgt := 181) dX6_readSign_176 rfl ?_
      refine V_putI kk4 (by decide) fl_X6_18 rfl dX6_readSign_181 ?_
      refine V_goto (tgt := 265) dX6_readSign_184 rfl ?_
      rw [e168]
      exact V_return rfl (fin _ 9 (((a + 1 : Nat) : Int) + 1) (((KT4.rf.u (by omega)).u (by omega)).u (by omega)) (by rw [u2_o (by omega), u2_s]) u2_s (by rw [u2_o (by omega), u2_o (by omega), u2_o (by omega)]) (by rw [u2_o (by omega), u2_o (by omega), u2_o (by omega)]) (by unfold sgnC; simp only; rw [if_pos (by omega)]; omega) (by unfold sgnC; simp only; rw [if_pos (by omega)]; omega) (by intro _; unfold sgnC; simp only; rw [if_neg (by omega), if_neg (by omega), if_pos ec, if_pos hb1]; rfl) (by unfold sgnC; simp only; rw [if_pos (by omega)]; omega)) dX6_readSign_265
  · refine V_tabOut (tgt := 259) dX6_readSign_21 (by omega) (by first | assumption | (unfold ri at *; omega)) rfl ?_
    refine V_al0n dX6_readSign_259 ?_
    refine V_bipush dX6_readSign_260 rfl ?_
    refine V_putI kk4 (by decide) fl_X6_18 rfl dX6_readSign_262 ?_
    first | exact V_return rfl (fin1 _ (by omega) (by omega) (by omega) (by unfold csK; rw [ec]; rfl)) dX6_readSign_265 | exact V_return rfl (fin1 _ (by omega) (by omega) (by omega) (by unfold csK; (repeat' split) <;> first | rfl | (exfalso; omega))) dX6_readSign_265 | exact V_return rfl (fin _ 7 ((a : Int) + 1) ((KT4.rf.u (by omega)).u (by omega)) (by rw [u2_o (by omega), u2_s]) u2_s (by rw [u2_o (by omega), u2_o (by omega)]) (by rw [u2_o (by omega), u2_o (by omega)]) (by unfold sgnC; simp only; rw [if_neg (by omega)]; omega) (by unfold sgnC; simp only; rw [if_pos (by omega)]; omega) (by intro _; unfold sgnC; simp only; rw [if_pos ec]; rfl) (by unfold sgnC; simp only; rw [if_pos (by omega)]; omega)) dX6_readSign_265
theorem w_next0 {Q : QT} {f0 : IT} (hρ : Fx ρ) (hT : CTp tp s f0) {a p : Nat} (ha : a = run1 isW tp (s - p) p) (hps : p ≤ s)
    (hX : ∀ f : IT, KT4 f0 f → f 4 2 = (a : Int) → V_X6_next Q 52 [.ref 4] [] ρ f g)
    (q : Nat) (hq : p ≤ q ∧ q ≤ a) (f : IT) (hf : KT4 f0 f) (h2 : f 4 2 = (q : Int)) : V_X6_next Q 0 [.ref 4] [] ρ f g := by
  have hT1 := hT.kt hf
  obtain ⟨t1, t2, t3, t4⟩ := hT1
  have hle := run1_le (P := isW) (tp := tp) (s - p) p
  rw [← ha] at hle
  have hin : ∀ i, p ≤ i → i < a → tp i = 10 ∨ tp i = 32 := fun i h1 h2 => isW_iff.mp (run1_in (s - p) p i h1 (by rw [← ha]; exact h2))
  have hend : a < s → ¬ (tp a = 10 ∨ tp a = 32) := fun z w => by
    have := run1_end (P := isW) (tp := tp) (s - p) p (by omega)
    rw [← ha] at this
    rw [isW_iff.mpr w] at this
    cases this
  have eq1 : ((q : Int) + 1) = ((q + 1 : Nat) : Int) := by omega
  by_cases e : q = a
  · subst e
    by_cases c : q = s
    · refine V_al0n dX6_next_0 ?_
      refine V_getI kk4 (by decide) fl_X6_15 h2 dX6_next_1 ?_
      refine V_al0n dX6_next_4 ?_
      refine V_getI kk4 (by decide) fl_X6_9 t2 dX6_next_5 ?_
      refine V_icmp_ge (tgt := 52) dX6_next_8 rfl (by unfold ri; omega) (by unfold ri; omega) (fun b8 => ?_) (fun b8 => ?_)
      · exact hX f hf h2
      · exfalso; omega
    · have hbq := t4 q (by omega)
      have hne := hend (by omega)
      refine V_al0n dX6_next_0 ?_
      refine V_getI kk4 (by decide) fl_X6_15 h2 dX6_next_1 ?_
      refine V_al0n dX6_next_4 ?_
      refine V_getI kk4 (by decide) fl_X6_9 t2 dX6_next_5 ?_
      refine V_icmp_ge (tgt := 52) dX6_next_8 rfl (by unfold ri; omega) (by unfold ri; omega) (fun b8 => ?_) (fun b8 => ?_)
      · exfalso; omega
      · refine V_al0n dX6_next_11 ?_
        refine V_getR kk4 (by decide) fl_X6_30 (fx_4_0 hρ) dX6_next_12 ?_
        refine V_al0n dX6_next_15 ?_
        refine V_getI kk4 (by decide) fl_X6_15 h2 dX6_next_16 ?_
        refine V_iald (k := q) kk1 (by decide) (by first | rfl | omega) (by omega) (by first | decide | assumption | omega) (t3 q (by omega)) dX6_next_19 ?_
        refine V_bipush dX6_next_20 rfl ?_
        refine V_icmp_eq (tgt := 39) dX6_next_22 rfl (by unfold ri; omega) (by unfold ri; omega) (fun b22 => ?_) (fun b22 => ?_)
        · exfalso; omega
        · refine V_al0n dX6_next_25 ?_
          refine V_getR kk4 (by decide) fl_X6_30 (fx_4_0 hρ) dX6_next_26 ?_
          refine V_al0n dX6_next_29 ?_
          refine V_getI kk4 (by decide) fl_X6_15 h2 dX6_next_30 ?_
          refine V_iald (k := q) kk1 (by decide) (by first | rfl | omega) (by omega) (by first | decide | assumption | omega) (t3 q (by omega)) dX6_next_33 ?_
          refine V_bipush dX6_next_34 rfl ?_
          refine V_icmp_ne (tgt := 52) dX6_next_36 rfl (by unfold ri; omega) (by unfold ri; omega) (fun b36 => ?_) (fun b36 => ?_)
          · exact hX f hf h2
          · exfalso; omega
  · have hbq := t4 q (by omega)
    have hne := hin q (by omega) (by omega)
    refine V_al0n dX6_next_0 ?_
    refine V_getI kk4 (by decide) fl_X6_15 h2 dX6_next_1 ?_
    refine V_al0n dX6_next_4 ?_
    refine V_getI kk4 (by decide) fl_X6_9 t2 dX6_next_5 ?_
    refine V_icmp_ge (tgt := 52) dX6_next_8 rfl (by unfold ri; omega) (by unfold ri; omega) (fun b8 => ?_) (fun b8 => ?_)
    · exfalso; omega
    · refine V_al0n dX6_next_11 ?_
      refine V_getR kk4 (by decide) fl_X6_30 (fx_4_0 hρ) dX6_next_12 ?_
      refine V_al0n dX6_next_15 ?_
      refine V_getI kk4 (by decide) fl_X6_15 h2 dX6_next_16 ?_
      refine V_iald (k := q) kk1 (by decide) (by first | rfl | omega) (by omega) (by first | decide | assumption | omega) (t3 q (by omega)) dX6_next_19 ?_
      refine V_bipush dX6_next_20 rfl ?_
      refine V_icmp_eq (tgt := 39) dX6_next_22 rfl (by unfold ri; omega) (by unfold ri; omega) (fun b22 => ?_) (fun b22 => ?_)
      · refine V_al0n dX6_next_39 ?_
        refine V_dup dX6_next_40 rfl ?_
        refine V_getI kk4 (by decide) fl_X6_15 h2 dX6_next_41 ?_
        refine V_iconst dX6_next_44 ?_
        refine V_iadd dX6_next_45 ?_
        refine V_putI kk4 (by decide) fl_X6_15 rfl dX6_next_46 ?_
        refine V_goto (tgt := 0) dX6_next_49 rfl ?_
        rw [eq1]
        exact w_next0 hρ hT ha hps hX (q + 1) (by omega) _ (hf.u (by omega)) u2_s
      · refine V_al0n dX6_next_25 ?_
        refine V_getR kk4 (by decide) fl_X6_30 (fx_4_0 hρ) dX6_next_26 ?_
        refine V_al0n dX6_next_29 ?_
        refine V_getI kk4 (by decide) fl_X6_15 h2 dX6_next_30 ?_
        refine V_iald (k := q) kk1 (by decide) (by first | rfl | omega) (by omega) (by first | decide | assumption | omega) (t3 q (by omega)) dX6_next_33 ?_
        refine V_bipush dX6_next_34 rfl ?_
        refine V_icmp_ne (tgt := 52) dX6_next_36 rfl (by unfold ri; omega) (by unfold ri; omega) (fun b36 => ?_) (fun b36 => ?_)
        · exfalso; omega
        · refine V_al0n dX6_next_39 ?_
          refine V_dup dX6_next_40 rfl ?_
          refine V_getI kk4 (by decide) fl_X6_15 h2 dX6_next_41 ?_
          refine V_iconst dX6_next_44 ?_
          refine V_iadd dX6_next_45 ?_
          refine V_putI kk4 (by decide) fl_X6_15 rfl dX6_next_46 ?_
          refine V_goto (tgt := 0) dX6_next_49 rfl ?_
          rw [eq1]
          exact w_next0 hρ hT ha hps hX (q + 1) (by omega) _ (hf.u (by omega)) u2_s
termination_by a - q
theorem c_next {f : IT} (hρ : Fx ρ) (hT : CTp tp s f) {p : Nat} (hps : p ≤ s) (h2 : f 4 2 = (p : Int)) (w0 : Int) : C_X6_next [.ref 4] ρ f g (fun r ρ' f' g' => r = none ∧ ρ' = ρ ∧ KT4 f f' ∧ TKc (tokT tp s p w0) f' ∧ g' = g) := by
  have hle := run1_le (P := isW) (tp := tp) (s - p) p
  have hendW : run1 isW tp (s - p) p < s → isW (tp (run1 isW tp (s - p) p)) = false := fun z => run1_end (P := isW) (tp := tp) (s - p) p (by omega)
  have etk : tokT tp s p w0 = if run1 isW tp (s - p) p = s then (s, s, 0, w0) else if isL (tp (run1 isW tp (s - p) p)) = true then wrdT tp (run1 isW tp (s - p) p) (run1 isL tp (s - run1 isW tp (s - p) p) (run1 isW tp (s - p) p)) else if isG (tp (run1 isW tp (s - p) p)) = true then (run1 isW tp (s - p) p, run1 isG tp (s - run1 isW tp (s - p) p) (run1 isW tp (s - p) p), 3, numV tp (s - run1 isW tp (s - p) p) (run1 isW tp (s - p) p) 0) else sgnT tp s (run1 isW tp (s - p) p) := by unfold tokT tokA; rfl
  generalize ha : run1 isW tp (s - p) p = a at *
  have s700 := hT.1
  have h52 : ∀ f1 : IT, KT4 f f1 → f1 4 2 = (a : Int) → V_X6_next (fun r ρ' f' g' => r = none ∧ ρ' = ρ ∧ KT4 f f' ∧ TKc (tokT tp s p w0) f' ∧ g' = g) 52 [.ref 4] [] ρ f1 g := by
    intro f1 k1 e2
    have k2 : KT4 f (u2 (u2 f1 4 4 (a : Int)) 4 6 (-1)) := (k1.u (by omega)).u (by omega)
    have g2 : (u2 (u2 f1 4 4 (a : Int)) 4 6 (-1)) 4 2 = (a : Int) := by rw [u2_o (by omega), u2_o (by omega)]; exact e2
    have g4 : (u2 (u2 f1 4 4 (a : Int)) 4 6 (-1)) 4 4 = (a : Int) := by rw [u2_o (by omega), u2_s]
    have g6 : (u2 (u2 f1 4 4 (a : Int)) 4 6 (-1)) 4 6 = -1 := u2_s
    have hT2 := hT.kt k2
    obtain ⟨-, t2, t3, t4⟩ := hT2
    have hT2 := hT.kt k2
    have q2 : f1 4 1 = (s : Int) := (hT.kt k1).2.1
    have q3 : ∀ k, k < s → f1 1 k = tp k := (hT.kt k1).2.2.1
    by_cases c : a = s
    · rw [if_pos c] at etk
      rw [etk]
      refine V_al0n dX6_next_52 ?_
      refine V_al0n dX6_next_53 ?_
      refine V_getI kk4 (by decide) fl_X6_15 e2 dX6_next_54 ?_
      refine V_putI kk4 (by decide) fl_X6_21 rfl dX6_next_57 ?_
      refine V_al0n dX6_next_60 ?_
      refine V_iconst dX6_next_61 ?_
      refine V_putI kk4 (by decide) fl_X6_27 rfl dX6_next_62 ?_
      refine V_al0n dX6_next_65 ?_
      refine V_getI kk4 (by decide) fl_X6_15 (u2_n (by decide) (u2_n (by decide) e2)) dX6_next_66 ?_
      refine V_al0n dX6_next_69 ?_
      refine V_getI kk4 (by decide) fl_X6_9 (u2_n (by decide) (u2_n (by decide) q2)) dX6_next_70 ?_
      refine V_icmp_lt (tgt := 85) dX6_next_73 rfl (by unfold ri; omega) (by unfold ri; omega) (fun b73 => ?_) (fun b73 => ?_)
      · exfalso; omega
      · refine V_al0n dX6_next_76 ?_
        refine V_bipush dX6_next_77 rfl ?_
        refine V_putI kk4 (by decide) fl_X6_18 rfl dX6_next_79 ?_
        refine V_goto (tgt := 133) dX6_next_82 rfl ?_
        exact V_return rfl ⟨rfl, rfl, k2.u (by omega), ⟨by show _ = (s : Int); rw [u2_o (by omega), u2_o (by omega), u2_s]; omega, by show _ = (s : Int); rw [u2_o (by omega), u2_o (by omega), u2_o (by omega), e2]; omega, by rw [u2_s, show u2 (u2 (u2 f1 4 4 (a : Int)) 4 6 (-1)) 4 3 20 4 6 = -1 from (u2_o (by omega)).trans g6]; show TKv 0 w0 20 _ (-1); exact ⟨fun _ => ⟨rfl, rfl⟩, fun q => by omega, fun q => by omega, fun q => by omega, fun q => by omega, fun q => by omega, fun q => by omega⟩⟩, rfl⟩ dX6_next_133
    · rw [if_neg c] at etk
      have hca := t4 a (by omega)
      have hw := hendW (by omega)
      have hrw := fun hl => c_readWord (ρ := ρ) (g := g) hρ hT2 (a := a) (by omega) g2 g4 g6 hl
      have hrn := c_readNumber (ρ := ρ) (g := g) hρ hT2 (a := a) (by omega) g2 g4 g6
      have hrs := c_readSign (ρ := ρ) (g := g) hρ hT2 (a := a) (by omega) g2 g4 g6 hw
      refine V_al0n dX6_next_52 ?_
      refine V_al0n dX6_next_53 ?_
      refine V_getI kk4 (by decide) fl_X6_15 e2 dX6_next_54 ?_
      refine V_putI kk4 (by decide) fl_X6_21 rfl dX6_next_57 ?_
      refine V_al0n dX6_next_60 ?_
      refine V_iconst dX6_next_61 ?_
      refine V_putI kk4 (by decide) fl_X6_27 rfl dX6_next_62 ?_
      refine V_al0n dX6_next_65 ?_
      refine V_getI kk4 (by decide) fl_X6_15 (u2_n (by decide) (u2_n (by decide) e2)) dX6_next_66 ?_
      refine V_al0n dX6_next_69 ?_
      refine V_getI kk4 (by decide) fl_X6_9 (u2_n (by decide) (u2_n (by decide) q2)) dX6_next_70 ?_
      refine V_icmp_lt (tgt := 85) dX6_next_73 rfl (by unfold ri; omega) (by unfold ri; omega) (fun b73 => ?_) (fun b73 => ?_)
      · refine V_al0n dX6_next_85 ?_
        refine V_getR kk4 (by decide) fl_X6_30 (fx_4_0 hρ) dX6_next_86 ?_
        refine V_al0n dX6_next_89 ?_
        refine V_getI kk4 (by decide) fl_X6_15 (u2_n (by decide) (u2_n (by decide) e2)) dX6_next_90 ?_
        refine V_iald (k := a) kk1 (by decide) (by first | rfl | omega) (by omega) (by first | decide | assumption | omega) (u2_n (by omega) (u2_n (by omega) (q3 a (by omega)))) dX6_next_93 ?_
        refine V_callS (as := [_]) ml_X6_40 sm_X6_isLetter dX6_next_94 rfl rfl (by decide) (by decide) (Nat.le_of_ble_eq_true rfl) (by decide) (by decide) rfl (c_xLetter (n := tp a) (by unfold ri; omega)) ?_
        refine pq4 ?_
        refine V_bt (tgt := 107) dX6_next_97 rfl (fun b97 => ?_) (fun b97 => ?_)
        · refine V_al0n dX6_next_107 ?_
          refine V_getR kk4 (by decide) fl_X6_30 (fx_4_0 hρ) dX6_next_108 ?_
          refine V_al0n dX6_next_111 ?_
          refine V_getI kk4 (by decide) fl_X6_15 (u2_n (by decide) (u2_n (by decide) e2)) dX6_next_112 ?_
          refine V_iald (k := a) kk1 (by decide) (by first | rfl | omega) (by omega) (by first | decide | assumption | omega) (u2_n (by omega) (u2_n (by omega) (q3 a (by omega)))) dX6_next_115 ?_
          refine V_callS (as := [_]) ml_X6_47 sm_X6_isDigit dX6_next_116 rfl rfl (by decide) (by decide) (Nat.le_of_ble_eq_true rfl) (by decide) (by decide) rfl (c_xDigit (n := tp a) (by unfold ri; omega)) ?_
          refine pq4 ?_
          refine V_bt (tgt := 129) dX6_next_119 rfl (fun b119 => ?_) (fun b119 => ?_)
          · refine V_al0n dX6_next_129 ?_
            refine V_callV (as := []) ml_X6_53 im_X6_readSign se_X6_readSign kk4 (by decide) (by decide) dX6_next_130 rfl rfl (by decide) (by decide) (Nat.le_of_ble_eq_true rfl) (by decide) (by decide) rfl (hrs) ?_
            rintro r130 ρ130 f130 g130 ⟨rfl, s130_0, r1, r2, s130_1⟩
            obtain rfl := s130_0.symm
            obtain rfl := s130_1.symm
            exact V_return rfl (by rw [etk]; first | (rw [if_pos b97]; exact ⟨rfl, rfl, k2.tr r1, r2, rfl⟩) | (rw [if_neg (by rw [b97]; exact Bool.false_ne_true), if_pos b119]; exact ⟨rfl, rfl, k2.tr r1, r2, rfl⟩) | (rw [if_neg (by rw [b97]; exact Bool.false_ne_true), if_neg (by rw [b119]; exact Bool.false_ne_true)]; exact ⟨rfl, rfl, k2.tr r1, r2, rfl⟩)) dX6_next_133
          · refine V_al0n dX6_next_122 ?_
            refine V_callV (as := []) ml_X6_50 im_X6_readNumber se_X6_readNumber kk4 (by decide) (by decide) dX6_next_123 rfl rfl (by decide) (by decide) (Nat.le_of_ble_eq_true rfl) (by decide) (by decide) rfl (hrn) ?_
            rintro r123 ρ123 f123 g123 ⟨rfl, s123_0, r1, r2, s123_1⟩
            obtain rfl := s123_0.symm
            obtain rfl := s123_1.symm
            refine V_goto (tgt := 133) dX6_next_126 rfl ?_
            exact V_return rfl (by rw [etk]; first | (rw [if_pos b97]; exact ⟨rfl, rfl, k2.tr r1, r2, rfl⟩) | (rw [if_neg (by rw [b97]; exact Bool.false_ne_true), if_pos b119]; exact ⟨rfl, rfl, k2.tr r1, r2, rfl⟩) | (rw [if_neg (by rw [b97]; exact Bool.false_ne_true), if_neg (by rw [b119]; exact Bool.false_ne_true)]; exact ⟨rfl, rfl, k2.tr r1, r2, rfl⟩)) dX6_next_133
        · refine V_al0n dX6_next_100 ?_
          refine V_callV (as := []) ml_X6_44 im_X6_readWord se_X6_readWord kk4 (by decide) (by decide) dX6_next_101 rfl rfl (by decide) (by decide) (Nat.le_of_ble_eq_true rfl) (by decide) (by decide) rfl (hrw b97) ?_
          rintro r101 ρ101 f101 g101 ⟨rfl, s101_0, r1, r2, s101_1⟩
          obtain rfl := s101_0.symm
          obtain rfl := s101_1.symm
          refine V_goto (tgt := 133) dX6_next_104 rfl ?_
          exact V_return rfl (by rw [etk]; first | (rw [if_pos b97]; exact ⟨rfl, rfl, k2.tr r1, r2, rfl⟩) | (rw [if_neg (by rw [b97]; exact Bool.false_ne_true), if_pos b119]; exact ⟨rfl, rfl, k2.tr r1, r2, rfl⟩) | (rw [if_neg (by rw [b97]; exact Bool.false_ne_true), if_neg (by rw [b119]; exact Bool.false_ne_true)]; exact ⟨rfl, rfl, k2.tr r1, r2, rfl⟩)) dX6_next_133
      · exfalso; omega
  refine Ct.ofV (by decide) rfl (Nat.le_of_ble_eq_true rfl) ?_
  exact w_next0 hρ hT ha.symm hps h52 p (by omega) f KT4.rf h2
/-- the class's token is the reference's -/
def CUR (f φ : IT) : Prop := CTp (φ 105) (φ 104 6).toNat f ∧ (f 4 4 = φ 104 10 ∧ f 4 2 = φ 104 7 ∧ f 2 6 = φ 104 4 ∧ f 2 7 = φ 104 5) ∧ TKv (φ 104 8) (φ 104 9) (f 4 3) (f 4 5) (f 4 6)
/-- the reference has read one ahead -/
def PRE (f φ : IT) : Prop := CTp (φ 105) (φ 104 6).toNat f ∧ ∃ (p : Nat) (w0 : Int), f 4 2 = (p : Int) ∧ p ≤ (φ 104 6).toNat ∧ φ 104 10 = ((tokT (φ 105) (φ 104 6).toNat p w0).1 : Int) ∧ φ 104 7 = ((tokT (φ 105) (φ 104 6).toNat p w0).2.1 : Int) ∧ φ 104 8 = (tokT (φ 105) (φ 104 6).toNat p w0).2.2.1 ∧ φ 104 9 = (tokT (φ 105) (φ 104 6).toNat p w0).2.2.2 ∧ f 2 6 = φ 104 4 ∧ f 2 7 = φ 104 5
theorem c_nextP {f φ : IT} (hρ : Fx ρ) (h : PRE f φ) : C_X6_next [.ref 4] ρ f g (fun r ρ' f' g' => r = none ∧ ρ' = ρ ∧ KT4 f f' ∧ CUR f' φ ∧ g' = g) := by
  obtain ⟨hT, p, w0, h2, hp, e10, e7, e8, e9, l6, l7⟩ := h
  refine (c_next (g := g) hρ hT hp h2 w0).mono ?_
  rintro r ρ' f' g' ⟨a1, a2, a3, a4, a5⟩
  exact ⟨a1, a2, a3, ⟨hT.kt a3, ⟨a4.1.trans e10.symm, a4.2.1.trans e7.symm, (a3 2 6 (by omega)).trans l6, (a3 2 7 (by omega)).trans l7⟩, by rw [e8, e9]; exact a4.2.2⟩, a5⟩
theorem CUR.pre {f φ φ' : IT} (h : CUR f φ) (hK : TkK φ) (e5 : φ' 105 = φ 105) (e6 : φ' 104 6 = φ 104 6) (e7 : φ' 104 7 = φ 104 7) (e4 : φ' 104 4 = φ 104 4 ∧ φ' 104 5 = φ 104 5 := by first | exact ⟨rfl, rfl⟩ | exact ⟨u2_o (by omega), u2_o (by omega)⟩ | (constructor <;> (repeat rw [u2_o (by omega)]))) : PRE f (tkF φ') := by
  have r6 : tkF φ' 104 6 = φ 104 6 := (tkF_o (by omega)).trans e6
  have r5 : tkF φ' 105 = φ 105 := (tkF_r (by omega)).trans e5
  unfold PRE
  rw [r5, r6]
  refine ⟨h.1, (φ 104 7).toNat, φ' 104 9, ?_, ?_, ?_, ?_, ?_, ?_, ?_, ?_⟩
  · rw [h.2.1.2.1]; have := hK.2.1; omega
  · have := hK.1; have := hK.2.1; omega
  · unfold tkF st4; rw [u2_o (by omega), u2_o (by omega), u2_o (by omega), u2_s, e5, e6, e7]
  · unfold tkF st4; rw [u2_o (by omega), u2_o (by omega), u2_s, e5, e6, e7]
  · unfold tkF st4; rw [u2_o (by omega), u2_s, e5, e6, e7]
  · unfold tkF st4; rw [u2_s, e5, e6, e7]
  · rw [tkF_o (by omega), e4.1]; exact h.2.1.2.2.1
  · rw [tkF_o (by omega), e4.2]; exact h.2.1.2.2.2
theorem CUR.cg {f f' φ φ' : IT} (h : CUR f φ) (e : ∀ k, f' 4 k = f 4 k) (e1 : ∀ k, f' 1 k = f 1 k) (e5 : φ' 105 = φ 105) (e6 : ∀ k, 6 ≤ k → k ≤ 10 → φ' 104 k = φ 104 k) (e2 : f' 2 6 = f 2 6 ∧ f' 2 7 = f 2 7 := by first | exact ⟨rfl, rfl⟩ | exact ⟨u2_o (by omega), u2_o (by omega)⟩ | (constructor <;> (repeat rw [u2_o (by omega)]))) (e4 : φ' 104 4 = φ 104 4 ∧ φ' 104 5 = φ 104 5 := by first | exact ⟨rfl, rfl⟩ | exact ⟨u2_o (by omega), u2_o (by omega)⟩ | (constructor <;> (repeat rw [u2_o (by omega)]))) : CUR f' φ' := by
  unfold CUR
  rw [e5, e6 6 (by omega) (by omega), e6 7 (by omega) (by omega), e6 8 (by omega) (by omega), e6 9 (by omega) (by omega), e6 10 (by omega) (by omega), e 2, e 3, e 4, e 5, e 6, e2.1, e2.2, e4.1, e4.2]
  exact ⟨h.1.cg (e 1) e1, h.2⟩
theorem PRE.cg {f f' φ φ' : IT} (h : PRE f φ) (e : ∀ k, f' 4 k = f 4 k) (e1 : ∀ k, f' 1 k = f 1 k) (e5 : φ' 105 = φ 105) (e6 : ∀ k, 6 ≤ k → k ≤ 10 → φ' 104 k = φ 104 k) (e2 : f' 2 6 = f 2 6 ∧ f' 2 7 = f 2 7 := by first | exact ⟨rfl, rfl⟩ | exact ⟨u2_o (by omega), u2_o (by omega)⟩ | (constructor <;> (repeat rw [u2_o (by omega)]))) (e4 : φ' 104 4 = φ 104 4 ∧ φ' 104 5 = φ 104 5 := by first | exact ⟨rfl, rfl⟩ | exact ⟨u2_o (by omega), u2_o (by omega)⟩ | (constructor <;> (repeat rw [u2_o (by omega)]))) : PRE f' φ' := by
  unfold PRE
  rw [e5, e6 6 (by omega) (by omega), e6 7 (by omega) (by omega), e6 8 (by omega) (by omega), e6 9 (by omega) (by omega), e6 10 (by omega) (by omega), e 2, e2.1, e2.2, e4.1, e4.2]
  exact ⟨h.1.cg (e 1) e1, h.2⟩
theorem c_isName {f φ : IT} (h : CUR f φ) (hK : PK φ) : C_X6_isName [.ref 4] ρ f g (fun r ρ' f' g' => r = some (.int (iz (bz (decide (φ 104 8 = 2))))) ∧ ρ' = ρ ∧ f' = f ∧ g' = g) := by
  obtain ⟨-, -, v0, v1, v2, v3, v4, v5, v6⟩ := h
  obtain ⟨-, k8, k9, k1, -, k5⟩ := hK
  have rr : (-1 ≤ f 4 3 ∧ f 4 3 ≤ 20) ∧ (-1 ≤ f 4 6 ∧ f 4 6 ≤ 28) ∧ (f 4 3 = 18 ∧ f 4 6 = -1 ↔ φ 104 8 = 2) := by
    unfold ckK cwK at v1
    unfold csK at v4
    rcases (show φ 104 8 = 0 ∨ φ 104 8 = 1 ∨ φ 104 8 = 2 ∨ φ 104 8 = 3 ∨ φ 104 8 = 4 ∨ φ 104 8 = 5 ∨ φ 104 8 = 6 by omega) with e | e | e | e | e | e | e
    · have := v0 e; omega
    · have := v1 e; have := k1 e; (repeat' split at this) <;> omega
    · have := v2 e; omega
    · have := v3 e; omega
    · have := v4 e; (repeat' split at this) <;> omega
    · have := v5 e; have := k5 e; omega
    · have := v6 e; omega
  refine Ct.ofV (by decide) rfl (Nat.le_of_ble_eq_true rfl) ?_
  refine V_al0n dX6_isName_0 ?_
  refine V_getI kk4 (by decide) fl_X6_18 rfl dX6_isName_1 ?_
  refine V_bipush dX6_isName_4 rfl ?_
  refine V_icmp_ne (tgt := 21) dX6_isName_6 rfl (by unfold ri; omega) (by unfold ri; omega) (fun b6 => ?_) (fun b6 => ?_)
  · refine V_iconst dX6_isName_21 ?_
    exact V_zreturn rfl (by first | exact Or.inl rfl | exact Or.inr rfl | (unfold bz; split <;> simp)) ⟨by unfold bz; simp only [decide_eq_true_eq]; split <;> first | rfl | (exfalso; omega), rfl, rfl, rfl⟩ dX6_isName_22
  · refine V_al0n dX6_isName_9 ?_
    refine V_getI kk4 (by decide) fl_X6_27 rfl dX6_isName_10 ?_
    refine V_iconst dX6_isName_13 ?_
    refine V_icmp_ne (tgt := 21) dX6_isName_14 rfl (by unfold ri; omega) (by unfold ri; omega) (fun b14 => ?_) (fun b14 => ?_)
    · refine V_iconst dX6_isName_21 ?_
      exact V_zreturn rfl (by first | exact Or.inl rfl | exact Or.inr rfl | (unfold bz; split <;> simp)) ⟨by unfold bz; simp only [decide_eq_true_eq]; split <;> first | rfl | (exfalso; omega), rfl, rfl, rfl⟩ dX6_isName_22
    · refine V_iconst dX6_isName_17 ?_
      refine V_goto (tgt := 22) dX6_isName_18 rfl ?_
      exact V_zreturn rfl (by first | exact Or.inl rfl | exact Or.inr rfl | (unfold bz; split <;> simp)) ⟨by unfold bz; simp only [decide_eq_true_eq]; split <;> first | rfl | (exfalso; omega), rfl, rfl, rfl⟩ dX6_isName_22
end CTOK3

