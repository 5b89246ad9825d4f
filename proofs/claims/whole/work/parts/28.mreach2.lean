theorem w_lrI {T : TT} {Q : QT} {ρ : RT} {f0 : IT} {g0 : JT} (hρ : Fx ρ) (hk : TOK T) {h : Nat} (hh : h < nHo T) {c : CC} (hc : CR c) {q : Int} (hq : 0 ≤ q ∧ q ≤ 9) {st k : Nat} (hkl : k < nLa T)
    (hX : ∀ (f : IT) (g : JT), RI T c f0 f g0 g st → DoneR T c (T 117 h) q (f 139) (k + 1) 0 → V_X12_layReached Q 42 [.ref 104, .int (iz (h : Int)), .int (iz q), .int (iz ((k : Int) + 1)), .null, .null] [] ρ f g)
    (i : Nat) (hi : i ≤ 2501) (f : IT) (g : JT) (hI : RI T c f0 f g0 g st) (hD : DoneR T c (T 117 h) q (f 139) k i) :
    V_X12_layReached Q 53 [.ref 104, .int (iz (h : Int)), .int (iz q), .int (iz (k : Int)), .int (iz (i : Int)), .null] [] ρ f g := by
  have h6 := hk.la
  have h01 := hI.2.2.2.2.1
  refine V_il4 dX12_layReached_53 ?_
  refine V_sipush dX12_layReached_55 rfl ?_
  refine V_icmp_ge (tgt := 160) dX12_layReached_58 rfl (by first | assumption | (unfold ri at *; omega)) (by first | assumption | (unfold ri at *; omega)) (fun b58 => ?_) (fun b58 => ?_)
  · refine V_inc3 dX12_layReached_160 (by decide) rfl ?_
    refine V_goto (tgt := 42) dX12_layReached_163 rfl ?_
    exact V_weak (by repeat (first | exact wk_n | refine wk_c (Or.inr rfl) ?_ | refine wk_c (Or.inl rfl) ?_)) (hX f g hI (fun k' i' a1 a2 => hD k' i' a1 (by omega)))
  · refine V_al0n dX12_layReached_61 ?_
    refine V_getR kk104 (by decide) fl_X12_118 (fx_104_84 hρ) dX12_layReached_62 ?_
    refine V_sipush dX12_layReached_65 rfl ?_
    refine V_il3n dX12_layReached_68 ?_
    refine V_imul dX12_layReached_69 ?_
    refine V_il4 dX12_layReached_70 ?_
    refine V_iadd dX12_layReached_72 ?_
    refine V_zald (k := 2501 * k + i) kk139 (by decide) (by first | rfl | omega) (by omega) (by first | decide | assumption | omega) rfl dX12_layReached_73 ?_
    have hb := h01 (2501 * k + i) (by omega)
    refine V_if_ne (tgt := 80) dX12_layReached_74 rfl (by first | assumption | (unfold ri at *; omega)) (fun b74 => ?_) (fun b74 => ?_)
    · refine V_iconst dX12_layReached_80 ?_
      refine V_is5 dX12_layReached_81 (by decide) rfl ?_
      refine w_lrP hρ hk hh hc hq hkl (by omega) (fun f1 g1 a1 a2 => ?_) 1 (by omega) f g hI hD (fun c1 p a1 a2 => by omega)
      refine V_inc4 dX12_layReached_154 (by decide) rfl ?_
      refine V_goto (tgt := 53) dX12_layReached_157 rfl ?_
      exact w_lrI hρ hk hh hc hq hkl hX (i + 1) (by omega) f1 g1 a1 a2
    · refine V_goto (tgt := 154) dX12_layReached_77 rfl ?_
      refine V_inc4 dX12_layReached_154 (by decide) rfl ?_
      refine V_goto (tgt := 53) dX12_layReached_157 rfl ?_
      exact w_lrI hρ hk hh hc hq hkl hX (i + 1) (by omega) f g hI (fun k' i' a1 a2 => by
        by_cases e : k' = k ∧ i' = i
        · rw [e.1, e.2]; intro c1; rw [b74] at c1; cases c1
        · exact hD k' i' a1 (by omega))
termination_by 2501 - i
theorem w_lrK {T : TT} {Q : QT} {ρ : RT} {f0 : IT} {g0 : JT} (hρ : Fx ρ) (hk : TOK T) {h : Nat} (hh : h < nHo T) {c : CC} (hc : CR c) {q : Int} (hq : 0 ≤ q ∧ q ≤ 9) {st : Nat}
    (hQ : ∀ (f : IT) (g : JT), RI T c f0 f g0 g st → DoneR T c (T 117 h) q (f 139) (nLa T) 0 → Q none ρ f g)
    (k : Nat) (hkl : k ≤ nLa T) (f : IT) (g : JT) (hI : RI T c f0 f g0 g st) (hD : DoneR T c (T 117 h) q (f 139) k 0) :
    V_X12_layReached Q 42 [.ref 104, .int (iz (h : Int)), .int (iz q), .int (iz (k : Int)), .null, .null] [] ρ f g := by
  have h6 := hk.la
  have fl : f 104 12 = ((nLa T : Nat) : Int) := (hI.1 104 12 rfl).trans h6.1
  refine V_il3n dX12_layReached_42 ?_
  refine V_al0n dX12_layReached_43 ?_
  refine V_getI kk104 (by decide) fl_X12_250 fl dX12_layReached_44 ?_
  refine V_icmp_ge (tgt := 166) dX12_layReached_47 rfl (by first | assumption | (unfold ri at *; omega)) (by first | assumption | (unfold ri at *; omega)) (fun b47 => ?_) (fun b47 => ?_)
  · have ek : k = nLa T := by omega
    subst ek
    exact V_return rfl (hQ f g hI hD) dX12_layReached_166
  · refine V_iconst dX12_layReached_50 ?_
    refine V_is4 dX12_layReached_51 (by decide) rfl ?_
    exact w_lrI hρ hk hh hc hq (by omega) (fun f1 g1 a1 a2 => w_lrK hρ hk hh hc hq hQ (k + 1) (by omega) f1 g1 a1 a2) 0 (by omega) f g hI hD
termination_by nLa T - k
theorem w_lrC {Q : QT} {ρ : RT} {f0 : IT} {g : JT} (hρ : Fx ρ) {h : Nat} {q : Int}
    (hX : ∀ (f : IT), KD 139 f0 f → (∀ a k, a ≠ 139 → f a k = f0 a k) → (∀ j, j < 17507 → f 139 j = 0) → V_X12_layReached Q 22 [.ref 104, .int (iz (h : Int)), .int (iz q), .null, .null, .null] [] ρ f g)
    (i : Nat) (hi : i ≤ 17507) (f : IT) (hkd : KD 139 f0 f) (hs : ∀ a k, a ≠ 139 → f a k = f0 a k) (hz : ∀ j, j < i → f 139 j = 0) :
    V_X12_layReached Q 2 [.ref 104, .int (iz (h : Int)), .int (iz q), .int (iz (i : Int)), .null, .null] [] ρ f g := by
  refine V_il3n dX12_layReached_2 ?_
  refine V_sipush dX12_layReached_3 rfl ?_
  refine V_icmp_ge (tgt := 22) dX12_layReached_6 rfl (by first | assumption | (unfold ri at *; omega)) (by first | assumption | (unfold ri at *; omega)) (fun b6 => ?_) (fun b6 => ?_)
  · exact V_weak (by repeat (first | exact wk_n | refine wk_c (Or.inr rfl) ?_ | refine wk_c (Or.inl rfl) ?_)) (hX f hkd hs (fun j hj => hz j (by omega)))
  · refine V_al0n dX12_layReached_9 ?_
    refine V_getR kk104 (by decide) fl_X12_118 (fx_104_84 hρ) dX12_layReached_10 ?_
    refine V_il3n dX12_layReached_13 ?_
    refine V_iconst dX12_layReached_14 ?_
    refine V_zast (k := i) kk139 (by decide) (by first | rfl | omega) (by omega) (by first | decide | assumption | omega) (by first | exact Or.inl rfl | exact Or.inr rfl | (unfold bz; split <;> simp)) dX12_layReached_15 ?_
    refine V_inc3 dX12_layReached_16 (by decide) rfl ?_
    refine V_goto (tgt := 2) dX12_layReached_19 rfl ?_
    exact w_lrC hρ hX (i + 1) (by omega) _ hkd.u2 (fun a k ha => (u2_o (fun z => ha z.1)).trans (hs a k ha)) (fun j hj => by unfold u2; split; rfl; exact hz j (by omega))
termination_by 17507 - i
theorem c_layReached {T : TT} {ρ : RT} {f : IT} {g : JT} (hρ : Fx ρ) (hT : MT T f) (hk : TOK T) {h : Nat} (hh : h < nHo T) {c : CC} (hc : CR c) (hM : MC c f) {q : Int} (hq : 0 ≤ q ∧ q ≤ 9) {w l : Nat} (hw : f 104 74 = (w : Int)) (hw6 : w ≤ 60) (hl : f 104 75 = (l : Int)) (hl4 : l ≤ 40) :
    C_X12_layReached [.ref 104, .int (iz (h : Int)), .int (iz q)] ρ f g (fun r ρ' f' g' => r = none ∧ ρ' = ρ ∧ RI T c f f' g g' (41 * w + l) ∧ DoneR T c (T 117 h) q (f' 139) (nLa T) 0) := by
  refine Ct.ofV (by decide) rfl (Nat.le_of_ble_eq_true rfl) ?_
  refine V_iconst dX12_layReached_0 ?_
  refine V_is3n dX12_layReached_1 (by decide) rfl ?_
  refine w_lrC hρ (f0 := f) (fun f1 kd sm hz => ?_) 0 (by omega) f KD.rf (fun _ _ _ => rfl) (fun j hj => by omega)
  refine V_al0n dX12_layReached_22 ?_
  refine V_getR kk104 (by decide) fl_X12_118 (fx_104_84 hρ) dX12_layReached_23 ?_
  refine V_iconst dX12_layReached_26 ?_
  refine V_al0n dX12_layReached_27 ?_
  refine V_getI kk104 (by decide) fl_X12_417 ((sm 104 74 (by omega)).trans hw) dX12_layReached_28 ?_
  refine V_al0n dX12_layReached_31 ?_
  refine V_getI kk104 (by decide) fl_X12_420 ((sm 104 75 (by omega)).trans hl) dX12_layReached_32 ?_
  refine V_callS (as := [_, _, _]) ml_X12_517 sm_X12_spot dX12_layReached_35 rfl rfl (by decide) (by decide) (Nat.le_of_ble_eq_true rfl) (by decide) (by decide) rfl (c_spot) ?_
  refine pq4 ?_
  refine V_iconst dX12_layReached_38 ?_
  refine V_zast (k := 41 * w + l) kk139 (by decide) (by omega) (by omega) (by decide) (Or.inr rfl) dX12_layReached_39 ?_
  refine V_iconst dX12_layReached_40 ?_
  refine V_is3n dX12_layReached_41 (by decide) rfl ?_
  have kd2 : KD 139 f (u2 f1 139 (41 * w + l) 1) := kd.u2
  exact w_lrK hρ hk hh hc hq (fun f' g' a1 a2 => ⟨rfl, rfl, a1, a2⟩) 0 (by omega) _ g ⟨kd2.mt rfl (by omega) hT, kd2.mc (by omega) hM, kd2, KG.rf, fun j hj => by unfold u2; split; exact Or.inr rfl; exact Or.inl (hz j hj), u2_s⟩ (fun k i a1 a2 => by omega)
/-! the least tenths from each spot on -/
def bstep (T : TT) (c : CC) (hc q : Int) (k i : Nat) (v : Nat → Int) : Nat → Nat → Int × Int → Int × Int
  | 0, _, x => x
  | n + 1, p, x => bstep T c hc q k i v n (p + 1) (if (¬ (k = 0 ∧ 0 < q ∧ (p : Int) ≠ q)) ∧ (tq T c hc k p i).2.2.1 ≠ 0 ∧ v (nsp T c hc k p i) ≠ 99999 ∧ (tq T c hc k p i).1 + v (nsp T c hc k p i) < x.1 then ((tq T c hc k p i).1 + v (nsp T c hc k p i), (p : Int)) else x)
/-- n stretches from the spot i of the stretch k on: the least tenths (99999: none), the first pace that gives them -/
def vst (T : TT) (c : CC) (hc q : Int) : Nat → Nat → Nat → Int × Int
  | 0, _, _ => (0, 0)
  | n + 1, k, i => bstep T c hc q k i (fun j => (vst T c hc q n (k + 1) j).1) 9 1 (99999, 0)
theorem bstep_rng {T : TT} (hk : TOK T) {c : CC} (hc : CR c) {h : Nat} (hh : h < nHo T) {q : Int} {k i : Nat} (hl : k < nLa T) (hi : i < 2501) {v : Nat → Int} {B : Int} (hB : 0 ≤ B) (hv : ∀ j, 0 ≤ v j ∧ (v j ≤ B ∨ v j = 99999)) : ∀ (n p : Nat) (x : Int × Int), 1 ≤ p → p + n ≤ 10 → (0 ≤ x.1 ∧ (x.1 ≤ B + 1980 ∨ x.1 = 99999)) → 0 ≤ (bstep T c (T 117 h) q k i v n p x).1 ∧ ((bstep T c (T 117 h) q k i v n p x).1 ≤ B + 1980 ∨ (bstep T c (T 117 h) q k i v n p x).1 = 99999)
  | 0, p, x, _, _, hx => hx
  | n + 1, p, x, hp, hn, hx => by
    unfold bstep
    refine bstep_rng hk hc hh hl hi hB hv n (p + 1) _ (by omega) (by omega) ?_
    have t := tq_rng hk hc hl hh (p := p) (by omega) hi
    split
    · rename_i hcnd
      have := hv (nsp T c (T 117 h) k p i)
      simp only
      omega
    · exact hx
theorem vst_rng {T : TT} (hk : TOK T) {c : CC} (hc : CR c) {h : Nat} (hh : h < nHo T) {q : Int} : ∀ (n k i : Nat), k + n = nLa T → i < 2501 → 0 ≤ (vst T c (T 117 h) q n k i).1 ∧ ((vst T c (T 117 h) q n k i).1 ≤ 1980 * n ∨ (vst T c (T 117 h) q n k i).1 = 99999)
  | 0, k, i, _, _ => by simp [vst]
  | n + 1, k, i, hn, hi => by
    unfold vst
    have key : ∀ (v : Nat → Int), (∀ j, j < 2501 → 0 ≤ v j ∧ (v j ≤ 1980 * (n : Int) ∨ v j = 99999)) → ∀ (m p : Nat) (x : Int × Int), 1 ≤ p → p + m ≤ 10 → (0 ≤ x.1 ∧ (x.1 ≤ 1980 * (n : Int) + 1980 ∨ x.1 = 99999)) → 0 ≤ (bstep T c (T 117 h) q k i v m p x).1 ∧ ((bstep T c (T 117 h) q k i v m p x).1 ≤ 1980 * (n : Int) + 1980 ∨ (bstep T c (T 117 h) q k i v m p x).1 = 99999) := by
      intro v hv m
      induction m with
      | zero => intro p x _ _ hx; exact hx
      | succ m ih =>
        intro p x hp hm hx
        unfold bstep
        refine ih (p + 1) _ (by omega) (by omega) ?_
        have t := tq_rng hk hc (k := k) (by omega) hh (p := p) (by omega) hi
        split
        · have := hv (nsp T c (T 117 h) k p i) t.2.2.2
          simp only
          omega
        · exact hx
    have := key (fun j => (vst T c (T 117 h) q n (k + 1) j).1) (fun j hj => vst_rng hk hc hh n (k + 1) j (by omega) hj) 9 1 (99999, 0) (by omega) (by omega) (by simp)
    refine ⟨this.1, ?_⟩
    have := this.2
    omega

