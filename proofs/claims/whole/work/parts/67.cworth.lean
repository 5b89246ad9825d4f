/-! a law's worth on the stack -/
def SPr (G val : Nat → Int) : List Nat → Prop
  | [] => True
  | x :: L => (G L.length = val x ∧ inB (val x)) ∧ SPr G val L
theorem SPr_drop {G val : Nat → Int} : ∀ (L : List Nat) (m : Nat), SPr G val L → SPr G val (L.drop m)
  | [], m, _ => by simp [SPr]
  | x :: L, 0, h => h
  | x :: L, m + 1, h => by simp only [List.drop_succ_cons]; exact SPr_drop L m h.2
theorem SPr_cg {G G' val val' : Nat → Int} : ∀ (L : List Nat), (∀ k, k < L.length → G' k = G k) → (∀ x, x ∈ L → val' x = val x) → SPr G val L → SPr G' val' L
  | [], _, _, _ => trivial
  | x :: L, h1, h2, h => by
    refine ⟨?_, SPr_cg L (fun k hk => h1 k (by simp; omega)) (fun y hy => h2 y (List.mem_cons_of_mem _ hy)) h.2⟩
    rw [h1 _ (by simp), h2 x (List.mem_cons_self ..)]
    exact h.1
theorem pst_len {K : Nat → Int} {lo : Nat} : ∀ n, (pst K lo n).length ≤ n
  | 0 => by simp [pst]
  | n + 1 => by
    have := pst_len (K := K) (lo := lo) n
    unfold pst
    (repeat' split) <;> simp <;> omega
/-- how a told law is laid out -/
def TPF (T : TT) : Prop := ∀ w, w < 8 → T 127 w = 1 → ∃ lo n : Nat, T 128 w = (lo : Int) ∧ T 129 w = (lo : Int) + n ∧ 0 < n ∧ (lo : Int) + n ≤ T 104 17 ∧ stV (T 130) (T 131) (T 132) lo n ∧ pst (T 130) lo n = [lo + n - 1]
theorem stV_at {K P O : Nat → Int} {lo : Nat} : ∀ n k, k < n → stV K P O lo n → stV K P O lo (k + 1)
  | 0, k, h, _ => by omega
  | n + 1, k, h, hs => by
    by_cases e : k = n
    · subst e; exact hs
    · exact stV_at n k (by omega) hs.1
def wthV (T : TT) (nm : Nat → Int) (w : Nat) : Int := if T 127 w = 1 then (lawv T nm w).getD ERR else ERR
def KGs (b : Nat) (g g' : JT) : Prop := ∀ a, a ≠ b + 22 → g' a = g a
theorem iz_and7 {q : Nat} (h : q < 8) : iz (q : Int) &&& iz 7 = iz (q : Int) := by
  rcases (show q = 0 ∨ q = 1 ∨ q = 2 ∨ q = 3 ∨ q = 4 ∨ q = 5 ∨ q = 6 ∨ q = 7 by omega) with rfl | rfl | rfl | rfl | rfl | rfl | rfl | rfl <;> decide
section WORTH
variable {T : TT} {b : Nat} {ρ : RT} {f : IT}
theorem c_lhas {g : JT} (hρ : Fx ρ) (hb : b = 5 ∨ b = 30) (hC : CT T b f) (hk : TOK T) {w : Nat} (hw : w < 8) : C_X1_has [.ref (b + 17), .int (iz (w : Int))] ρ f g (fun r ρ' f' g' => r = some (.int (iz (bz (decide (T 127 w = 1))))) ∧ ρ' = ρ ∧ f' = f ∧ g' = g) := by
  have hl := hC.2.2.2.2.1 w hw
  have ht := hk.law hw
  refine Ct.ofV (by decide) rfl (Nat.le_of_ble_eq_true rfl) ?_
  rcases ht.1 with t0 | t1
  · have e := hl.2 t0
    rw [t0]
    refine V_il1n dX1_has_0 ?_
    refine V_if_lt (tgt := 29) dX1_has_1 rfl (by first | assumption | (unfold ri at *; omega)) (fun b1 => ?_) (fun b1 => ?_)
    · exfalso; omega
    · refine V_il1n dX1_has_4 ?_
      refine V_bipush dX1_has_5 rfl ?_
      refine V_icmp_ge (tgt := 29) dX1_has_7 rfl (by first | assumption | (unfold ri at *; omega)) (by first | assumption | (unfold ri at *; omega)) (fun b7 => ?_) (fun b7 => ?_)
      · exfalso; omega
      · refine V_al0n dX1_has_10 ?_
        refine V_getR (kb_17 hb) (kl_17 hb) fl_X1_25 (fb_17_4 hρ hb) dX1_has_11 ?_
        refine V_il1n dX1_has_14 ?_
        refine V_iald (k := w) (kb_21 hb) (kl_21 hb) (by first | rfl | omega) (by omega) (by first | decide | assumption | omega) e.2 dX1_has_15 ?_
        refine V_al0n dX1_has_16 ?_
        refine V_getR (kb_17 hb) (kl_17 hb) fl_X1_22 (fb_17_3 hρ hb) dX1_has_17 ?_
        refine V_il1n dX1_has_20 ?_
        refine V_iald (k := w) (kb_20 hb) (kl_20 hb) (by first | rfl | omega) (by omega) (by first | decide | assumption | omega) e.1 dX1_has_21 ?_
        refine V_icmp_le (tgt := 29) dX1_has_22 rfl (by unfold ri; omega) (by unfold ri; omega) (fun b22 => ?_) (fun b22 => ?_)
        · refine V_iconst dX1_has_29 ?_
          exact V_zreturn rfl (by first | exact Or.inl rfl | exact Or.inr rfl | (unfold bz; split <;> simp)) ⟨rfl, rfl, rfl, rfl⟩ dX1_has_30
        · exfalso; omega
  · have e := hl.1 t1
    have h4 := ht.2 t1
    rw [t1]
    refine V_il1n dX1_has_0 ?_
    refine V_if_lt (tgt := 29) dX1_has_1 rfl (by first | assumption | (unfold ri at *; omega)) (fun b1 => ?_) (fun b1 => ?_)
    · exfalso; omega
    · refine V_il1n dX1_has_4 ?_
      refine V_bipush dX1_has_5 rfl ?_
      refine V_icmp_ge (tgt := 29) dX1_has_7 rfl (by first | assumption | (unfold ri at *; omega)) (by first | assumption | (unfold ri at *; omega)) (fun b7 => ?_) (fun b7 => ?_)
      · exfalso; omega
      · refine V_al0n dX1_has_10 ?_
        refine V_getR (kb_17 hb) (kl_17 hb) fl_X1_25 (fb_17_4 hρ hb) dX1_has_11 ?_
        refine V_il1n dX1_has_14 ?_
        refine V_iald (k := w) (kb_21 hb) (kl_21 hb) (by first | rfl | omega) (by omega) (by first | decide | assumption | omega) e.2 dX1_has_15 ?_
        refine V_al0n dX1_has_16 ?_
        refine V_getR (kb_17 hb) (kl_17 hb) fl_X1_22 (fb_17_3 hρ hb) dX1_has_17 ?_
        refine V_il1n dX1_has_20 ?_
        refine V_iald (k := w) (kb_20 hb) (kl_20 hb) (by first | rfl | omega) (by omega) (by first | decide | assumption | omega) e.1 dX1_has_21 ?_
        refine V_icmp_le (tgt := 29) dX1_has_22 rfl (by unfold ri; omega) (by unfold ri; omega) (fun b22 => ?_) (fun b22 => ?_)
        · exfalso; omega
        · refine V_iconst dX1_has_25 ?_
          refine V_goto (tgt := 30) dX1_has_26 rfl ?_
          exact V_zreturn rfl (by first | exact Or.inl rfl | exact Or.inr rfl | (unfold bz; split <;> simp)) ⟨rfl, rfl, rfl, rfl⟩ dX1_has_30
theorem w_worth {g0 : JT} {Q : QT} (hρ : Fx ρ) (hb : b = 5 ∨ b = 30) (hC : CT T b f) (hk : TOK T) {w lo N : Nat} (hw : w < 8) (e28 : T 128 w = (lo : Int)) (e29 : T 129 w = (lo : Int) + N) (ht : T 127 w = 1) (h64 : (lo : Int) + N ≤ T 104 17) (hst : stV (T 130) (T 131) (T 132) lo N) (hps : pst (T 130) lo N = [lo + N - 1]) {nm : Nat → Int} (hn : ∀ k, k < 8 → g0 (b + 23) k = nm k ∧ inB (nm k)) {R : Option (Nat → Int)}
    (hQ : ∀ g, KGs b g0 g → Q (some (.long (lz ((R.map (fun val => val (lo + N - 1))).getD ERR)))) ρ f g)
    (n : Nat) (hnN : n ≤ N) (val : Nat → Int) (g : JT) (hg : KGs b g0 g) (hsp : SPr (g (b + 22)) val (pst (T 130) lo n)) (hR : R = evs T nm (N - n) (lo + n) val) :
    V_X1_worth Q 21 [.ref (b + 17), .int (iz (w : Int)), .int (iz (((pst (T 130) lo n).length : Nat) : Int)), .int (iz (((lo + n : Nat)) : Int)), .null, .null, .null] [] ρ f g := by
  have hl := (hC.2.2.2.2.1 w hw).1 ht
  have h17 := hk.2.2.2.2.2.1
  have e29' : f (b + 21) w = ((lo + N : Nat) : Int) := by rw [hl.2, e29]; omega
  have e28' : f (b + 20) w = (lo : Int) := by rw [hl.1, e28]
  by_cases en : n = N
  · subst en
    rw [Nat.sub_self, evs] at hR
    subst hR
    rw [hps] at hsp ⊢
    have v0 : g (b + 22) 0 = val (lo + n - 1) := hsp.1.1
    refine V_il3n dX1_worth_21 ?_
    refine V_al0n dX1_worth_22 ?_
    refine V_getR (kb_17 hb) (kl_17 hb) fl_X1_25 (fb_17_4 hρ hb) dX1_worth_23 ?_
    refine V_il1n dX1_worth_26 ?_
    refine V_iald (k := w) (kb_21 hb) (kl_21 hb) (by first | rfl | omega) (by omega) (by first | decide | assumption | omega) e29' dX1_worth_27 ?_
    refine V_icmp_ge (tgt := 216) dX1_worth_28 rfl (by unfold ri; omega) (by unfold ri; omega) (fun b28 => ?_) (fun b28 => ?_)
    · refine V_al0n dX1_worth_216 ?_
      refine V_getR (kb_17 hb) (kl_17 hb) fl_X1_28 (fb_17_5 hρ hb) dX1_worth_217 ?_
      refine V_iconst dX1_worth_220 ?_
      refine V_lald (k := 0) (kb_22 hb) (kl_22 hb) (by first | rfl | omega) (by omega) (by first | decide | assumption | omega) v0 dX1_worth_221 ?_
      exact V_lreturn rfl (by have := hQ g hg; simpa using this) dX1_worth_222
    · exfalso; omega
  · have hi64 : lo + n < 64 := by omega
    have hs1 := hC.2.2.2.2.2.1 (lo + n) (by omega)
    have hsn := stV_at N n (by omega) hst
    have k0 := hsn.2.1
    have k1 := hsn.2.2.1
    have k2 := hsn.2.2.2.1
    have hlen := pst_len (K := T 130) (lo := lo) n
    have hmem := fun x hx => pst_mem (K := T 130) (lo := lo) n x hx
    have gn : ∀ k, k < 8 → g (b + 23) k = nm k ∧ inB (nm k) := fun k hk8 => by rw [hg (b + 23) (by omega)]; exact hn k hk8
    rw [show N - n = (N - (n + 1)) + 1 by omega, evs] at hR
    -- one knot done
    have step : ∀ (v : Int) (m : Nat) (g' : JT), kv T nm val (lo + n) = some v → inB v → pst (T 130) lo (n + 1) = (lo + n) :: (pst (T 130) lo n).drop m → g' = u2 g (b + 22) ((pst (T 130) lo n).drop m).length v → V_X1_worth Q 21 [.ref (b + 17), .int (iz (w : Int)), .int (iz (((((pst (T 130) lo n).drop m).length + 1 : Nat)) : Int)), .int (iz (((lo + (n + 1) : Nat)) : Int)), .null, .null, .null] [] ρ f g' := fun v m g' hv hvB hp hg' => by
      rw [hv] at hR
      have := w_worth hρ hb hC hk hw e28 e29 ht h64 hst hps hn hQ (n + 1) (by omega) (va_up val (lo + n) v) g' (by subst hg'; intro a ha; rw [← hg a ha]; funext j; exact u2_o (by omega)) (by
        rw [hp]
        subst hg'
        refine ⟨⟨by rw [u2_s]; unfold va_up; rw [if_pos rfl], by unfold va_up; rw [if_pos rfl]; exact hvB⟩, SPr_cg _ (fun k hk => u2_o (by omega)) (fun x hx => ?_) (SPr_drop _ m hsp)⟩
        have := hmem x (List.mem_of_mem_drop hx)
        unfold va_up
        rw [if_neg (by omega)]) hR
      rw [hp] at this
      exact this
    by_cases c0 : T 130 (lo + n) = 0
    · have hv0 : f (b + 18) (lo + n) = 0 := by rw [hs1.1, c0]; rfl
      have hv1 := hs1.2 (by omega)
      have hr1 := k1 c0
      have st := step (T 131 (lo + n)) 0 _ (by unfold kv; rw [if_pos c0]) (by unfold inB; omega) (by simp only [pst]; rw [if_pos (by omega)]; rfl) rfl
      rw [List.drop_zero] at st
      refine V_il3n dX1_worth_21 ?_
      refine V_al0n dX1_worth_22 ?_
      refine V_getR (kb_17 hb) (kl_17 hb) fl_X1_25 (fb_17_4 hρ hb) dX1_worth_23 ?_
      refine V_il1n dX1_worth_26 ?_
      refine V_iald (k := w) (kb_21 hb) (kl_21 hb) (by first | rfl | omega) (by omega) (by first | decide | assumption | omega) e29' dX1_worth_27 ?_
      refine V_icmp_ge (tgt := 216) dX1_worth_28 rfl (by unfold ri; omega) (by unfold ri; omega) (fun b28 => ?_) (fun b28 => ?_)
      · exfalso; omega
      · refine V_il3n dX1_worth_31 ?_
        refine V_bipush dX1_worth_32 rfl ?_
        refine V_icmp_ge (tgt := 216) dX1_worth_34 rfl (by unfold ri; omega) (by unfold ri; omega) (fun b34 => ?_) (fun b34 => ?_)
        · exfalso; omega
        · refine V_il2n dX1_worth_37 ?_
          refine V_bipush dX1_worth_38 rfl ?_
          refine V_icmp_ge (tgt := 216) dX1_worth_40 rfl (by unfold ri; omega) (by unfold ri; omega) (fun b40 => ?_) (fun b40 => ?_)
          · exfalso; omega
          · refine V_al0n dX1_worth_43 ?_
            refine V_getR (kb_17 hb) (kl_17 hb) fl_X1_11 (fb_17_0 hρ hb) dX1_worth_44 ?_
            refine V_il3n dX1_worth_47 ?_
            refine V_iald (k := (lo + n)) (kb_18 hb) (kl_18 hb) (by first | rfl | omega) (by omega) (by first | decide | assumption | omega) hv0 dX1_worth_48 ?_
            refine V_is4 dX1_worth_49 (by decide) rfl ?_
            refine V_il4 dX1_worth_51 ?_
            refine V_if_ne (tgt := 75) dX1_worth_53 rfl (by first | assumption | (unfold ri at *; omega)) (fun b53 => ?_) (fun b53 => ?_)
            · exact absurd rfl b53
            · refine V_al0n dX1_worth_56 ?_
              refine V_getR (kb_17 hb) (kl_17 hb) fl_X1_28 (fb_17_5 hρ hb) dX1_worth_57 ?_
              refine V_il2n dX1_worth_60 ?_
              refine V_al0n dX1_worth_61 ?_
              refine V_getR (kb_17 hb) (kl_17 hb) fl_X1_15 (fb_17_1 hρ hb) dX1_worth_62 ?_
              refine V_il3n dX1_worth_65 ?_
              refine V_iald (k := (lo + n)) (kb_19 hb) (kl_19 hb) (by first | rfl | omega) (by omega) (by first | decide | assumption | omega) hv1 dX1_worth_66 ?_
              refine V_i2l dX1_worth_67 (by unfold ri; omega) ?_
              refine V_last (k := (pst (T 130) lo n).length) (kb_22 hb) (kl_22 hb) (by first | rfl | omega) (by omega) (by first | decide | assumption | omega) dX1_worth_68 ?_
              refine V_inc2 dX1_worth_69 (by decide) rfl ?_
              refine V_goto (tgt := 210) dX1_worth_72 rfl ?_
              refine V_inc3 dX1_worth_210 (by decide) rfl ?_
              refine V_goto (tgt := 21) dX1_worth_213 rfl ?_
              exact V_weak (by repeat (first | exact wk_n | refine wk_c (Or.inr rfl) ?_ | refine wk_c (Or.inl rfl) ?_)) st
    · by_cases c1 : T 130 (lo + n) = 1
      · have hv0 : f (b + 18) (lo + n) = 1 := by rw [hs1.1, c1]; rfl
        have hv1 := hs1.2 (by omega)
        have hr1 := k2 c1
        obtain ⟨q, hq⟩ : ∃ q : Nat, T 131 (lo + n) = (q : Int) := ⟨(T 131 (lo + n)).toNat, by omega⟩
        rw [hq] at hv1
        have gq := gn q (by omega)
        have st := step (nm q) 0 _ (by unfold kv; rw [if_neg c0, if_pos c1, hq, Int.toNat_natCast]) gq.2 (by simp only [pst]; rw [if_pos (by omega)]; rfl) rfl
        rw [List.drop_zero] at st
        refine V_il3n dX1_worth_21 ?_
        refine V_al0n dX1_worth_22 ?_
        refine V_getR (kb_17 hb) (kl_17 hb) fl_X1_25 (fb_17_4 hρ hb) dX1_worth_23 ?_
        refine V_il1n dX1_worth_26 ?_
        refine V_iald (k := w) (kb_21 hb) (kl_21 hb) (by first | rfl | omega) (by omega) (by first | decide | assumption | omega) e29' dX1_worth_27 ?_
        refine V_icmp_ge (tgt := 216) dX1_worth_28 rfl (by unfold ri; omega) (by unfold ri; omega) (fun b28 => ?_) (fun b28 => ?_)
        · exfalso; omega
        · refine V_il3n dX1_worth_31 ?_
          refine V_bipush dX1_worth_32 rfl ?_
          refine V_icmp_ge (tgt := 216) dX1_worth_34 rfl (by unfold ri; omega) (by unfold ri; omega) (fun b34 => ?_) (fun b34 => ?_)
          · exfalso; omega
          · refine V_il2n dX1_worth_37 ?_
            refine V_bipush dX1_worth_38 rfl ?_
            refine V_icmp_ge (tgt := 216) dX1_worth_40 rfl (by unfold ri; omega) (by unfold ri; omega) (fun b40 => ?_) (fun b40 => ?_)
            · exfalso; omega
            · refine V_al0n dX1_worth_43 ?_
              refine V_getR (kb_17 hb) (kl_17 hb) fl_X1_11 (fb_17_0 hρ hb) dX1_worth_44 ?_
              refine V_il3n dX1_worth_47 ?_
              refine V_iald (k := (lo + n)) (kb_18 hb) (kl_18 hb) (by first | rfl | omega) (by omega) (by first | decide | assumption | omega) hv0 dX1_worth_48 ?_
              refine V_is4 dX1_worth_49 (by decide) rfl ?_
              refine V_il4 dX1_worth_51 ?_
              refine V_if_ne (tgt := 75) dX1_worth_53 rfl (by first | assumption | (unfold ri at *; omega)) (fun b53 => ?_) (fun b53 => ?_)
              · refine V_il4 dX1_worth_75 ?_
                refine V_iconst dX1_worth_77 ?_
                refine V_icmp_ne (tgt := 107) dX1_worth_78 rfl (by first | assumption | (unfold ri at *; omega)) (by first | assumption | (unfold ri at *; omega)) (fun b78 => ?_) (fun b78 => ?_)
                · exfalso; omega
                · refine V_al0n dX1_worth_81 ?_
                  refine V_getR (kb_17 hb) (kl_17 hb) fl_X1_28 (fb_17_5 hρ hb) dX1_worth_82 ?_
                  refine V_il2n dX1_worth_85 ?_
                  refine V_al0n dX1_worth_86 ?_
                  refine V_getR (kb_17 hb) (kl_17 hb) fl_X1_32 (fb_17_6 hρ hb) dX1_worth_87 ?_
                  refine V_al0n dX1_worth_90 ?_
                  refine V_getR (kb_17 hb) (kl_17 hb) fl_X1_15 (fb_17_1 hρ hb) dX1_worth_91 ?_
                  refine V_il3n dX1_worth_94 ?_
                  refine V_iald (k := (lo + n)) (kb_19 hb) (kl_19 hb) (by first | rfl | omega) (by omega) (by first | decide | assumption | omega) hv1 dX1_worth_95 ?_
                  refine V_bipush dX1_worth_96 rfl ?_
                  refine V_iand dX1_worth_98 (iz_and7 (by omega)) ?_
                  refine V_lald (k := q) (kb_23 hb) (kl_23 hb) (by first | rfl | omega) (by omega) (by first | decide | assumption | omega) gq.1 dX1_worth_99 ?_
                  refine V_last (k := (pst (T 130) lo n).length) (kb_22 hb) (kl_22 hb) (by first | rfl | omega) (by omega) (by first | decide | assumption | omega) dX1_worth_100 ?_
                  refine V_inc2 dX1_worth_101 (by decide) rfl ?_
                  refine V_goto (tgt := 210) dX1_worth_104 rfl ?_
                  refine V_inc3 dX1_worth_210 (by decide) rfl ?_
                  refine V_goto (tgt := 21) dX1_worth_213 rfl ?_
                  exact V_weak (by repeat (first | exact wk_n | refine wk_c (Or.inr rfl) ?_ | refine wk_c (Or.inl rfl) ?_)) st
              · exfalso; omega
      · by_cases c2 : T 130 (lo + n) = 2
        · have hv0 : f (b + 18) (lo + n) = 2 := by rw [hs1.1, c2]; rfl
          obtain ⟨x, s, hxs, hx⟩ := hsn.2.2.2.2.1 c2
          rw [hxs] at hsp step hlen ⊢
          have gx : g (b + 22) s.length = val x := hsp.1.1
          have hxB := hsp.1.2
          have st := step (bz (decide (val x = 0))) 1 _ (by unfold kv; rw [if_neg c0, if_neg c1, if_pos c2, hx, Int.toNat_natCast]) (bz_inB _) (by simp only [pst]; rw [if_neg (by omega), if_pos c2, hxs]) rfl
          simp only [List.drop_succ_cons, List.drop_zero] at st
          simp only [List.length_cons] at hlen ⊢
          unfold inB at hxB
          by_cases z : val x = 0
          · rw [show bz (decide (val x = 0)) = 1 by simp [z, bz]] at st
            rw [z] at gx
            refine V_il3n dX1_worth_21 ?_
            refine V_al0n dX1_worth_22 ?_
            refine V_getR (kb_17 hb) (kl_17 hb) fl_X1_25 (fb_17_4 hρ hb) dX1_worth_23 ?_
            refine V_il1n dX1_worth_26 ?_
            refine V_iald (k := w) (kb_21 hb) (kl_21 hb) (by first | rfl | omega) (by omega) (by first | decide | assumption | omega) e29' dX1_worth_27 ?_
            refine V_icmp_ge (tgt := 216) dX1_worth_28 rfl (by unfold ri; omega) (by unfold ri; omega) (fun b28 => ?_) (fun b28 => ?_)
            · exfalso; omega
            · refine V_il3n dX1_worth_31 ?_
              refine V_bipush dX1_worth_32 rfl ?_
              refine V_icmp_ge (tgt := 216) dX1_worth_34 rfl (by unfold ri; omega) (by unfold ri; omega) (fun b34 => ?_) (fun b34 => ?_)
              · exfalso; omega
              · refine V_il2n dX1_worth_37 ?_
                refine V_bipush dX1_worth_38 rfl ?_
                refine V_icmp_ge (tgt := 216) dX1_worth_40 rfl (by unfold ri; omega) (by unfold ri; omega) (fun b40 => ?_) (fun b40 => ?_)
                · exfalso; omega
                · refine V_al0n dX1_worth_43 ?_
                  refine V_getR (kb_17 hb) (kl_17 hb) fl_X1_11 (fb_17_0 hρ hb) dX1_worth_44 ?_
                  refine V_il3n dX1_worth_47 ?_
                  refine V_iald (k := (lo + n)) (kb_18 hb) (kl_18 hb) (by first | rfl | omega) (by omega) (by first | decide | assumption | omega) hv0 dX1_worth_48 ?_
                  refine V_is4 dX1_worth_49 (by decide) rfl ?_
                  refine V_il4 dX1_worth_51 ?_
                  refine V_if_ne (tgt := 75) dX1_worth_53 rfl (by first | assumption | (unfold ri at *; omega)) (fun b53 => ?_) (fun b53 => ?_)
                  · refine V_il4 dX1_worth_75 ?_
                    refine V_iconst dX1_worth_77 ?_
                    refine V_icmp_ne (tgt := 107) dX1_worth_78 rfl (by first | assumption | (unfold ri at *; omega)) (by first | assumption | (unfold ri at *; omega)) (fun b78 => ?_) (fun b78 => ?_)
                    · refine V_il4 dX1_worth_107 ?_
                      refine V_iconst dX1_worth_109 ?_
                      refine V_icmp_ne (tgt := 147) dX1_worth_110 rfl (by first | assumption | (unfold ri at *; omega)) (by first | assumption | (unfold ri at *; omega)) (fun b110 => ?_) (fun b110 => ?_)
                      · exfalso; omega
                      · refine V_il2n dX1_worth_113 ?_
                        refine V_iconst dX1_worth_114 ?_
                        refine V_icmp_lt (tgt := 147) dX1_worth_115 rfl (by first | assumption | (unfold ri at *; omega)) (by first | assumption | (unfold ri at *; omega)) (fun b115 => ?_) (fun b115 => ?_)
                        · exfalso; omega
                        · refine V_al0n dX1_worth_118 ?_
                          refine V_getR (kb_17 hb) (kl_17 hb) fl_X1_28 (fb_17_5 hρ hb) dX1_worth_119 ?_
                          refine V_il2n dX1_worth_122 ?_
                          refine V_iconst dX1_worth_123 ?_
                          refine V_isub dX1_worth_124 ?_
                          refine V_al0n dX1_worth_125 ?_
                          refine V_getR (kb_17 hb) (kl_17 hb) fl_X1_28 (fb_17_5 hρ hb) dX1_worth_126 ?_
                          refine V_il2n dX1_worth_129 ?_
                          refine V_iconst dX1_worth_130 ?_
                          refine V_isub dX1_worth_131 ?_
                          refine V_lald (k := s.length) (kb_22 hb) (kl_22 hb) (by first | rfl | omega) (by omega) (by first | decide | assumption | omega) gx dX1_worth_132 ?_
                          refine V_lconst (a := 0) dX1_worth_133 rfl ?_
                          refine V_lif_ne (tgt := 142) dX1_worth_134 dX1_worth_135 rfl (by unfold rl; omega) (by unfold rl; omega) (fun b135 => ?_) (fun b135 => ?_)
                          · exact absurd rfl b135
                          · refine V_lconst (a := 1) dX1_worth_138 rfl ?_
                            refine V_goto (tgt := 143) dX1_worth_139 rfl ?_
                            refine V_last (k := s.length) (kb_22 hb) (kl_22 hb) (by first | rfl | omega) (by omega) (by first | decide | assumption | omega) dX1_worth_143 ?_
                            refine V_goto (tgt := 210) dX1_worth_144 rfl ?_
                            refine V_inc3 dX1_worth_210 (by decide) rfl ?_
                            refine V_goto (tgt := 21) dX1_worth_213 rfl ?_
                            exact V_weak (by repeat (first | exact wk_n | refine wk_c (Or.inr rfl) ?_ | refine wk_c (Or.inl rfl) ?_)) st
                    · exfalso; omega
                  · exfalso; omega
          · rw [show bz (decide (val x = 0)) = 0 by simp [z, bz]] at st
            refine V_il3n dX1_worth_21 ?_
            refine V_al0n dX1_worth_22 ?_
            refine V_getR (kb_17 hb) (kl_17 hb) fl_X1_25 (fb_17_4 hρ hb) dX1_worth_23 ?_
            refine V_il1n dX1_worth_26 ?_
            refine V_iald (k := w) (kb_21 hb) (kl_21 hb) (by first | rfl | omega) (by omega) (by first | decide | assumption | omega) e29' dX1_worth_27 ?_
            refine V_icmp_ge (tgt := 216) dX1_worth_28 rfl (by unfold ri; omega) (by unfold ri; omega) (fun b28 => ?_) (fun b28 => ?_)
            · exfalso; omega
            · refine V_il3n dX1_worth_31 ?_
              refine V_bipush dX1_worth_32 rfl ?_
              refine V_icmp_ge (tgt := 216) dX1_worth_34 rfl (by unfold ri; omega) (by unfold ri; omega) (fun b34 => ?_) (fun b34 => ?_)
              · exfalso; omega
              · refine V_il2n dX1_worth_37 ?_
                refine V_bipush dX1_worth_38 rfl ?_
                refine V_icmp_ge (tgt := 216) dX1_worth_40 rfl (by unfold ri; omega) (by unfold ri; omega) (fun b40 => ?_) (fun b40 => ?_)
                · exfalso; omega
                · refine V_al0n dX1_worth_43 ?_
                  refine V_getR (kb_17 hb) (kl_17 hb) fl_X1_11 (fb_17_0 hρ hb) dX1_worth_44 ?_
                  refine V_il3n dX1_worth_47 ?_
                  refine V_iald (k := (lo + n)) (kb_18 hb) (kl_18 hb) (by first | rfl | omega) (by omega) (by first | decide | assumption | omega) hv0 dX1_worth_48 ?_
                  refine V_is4 dX1_worth_49 (by decide) rfl ?_
                  refine V_il4 dX1_worth_51 ?_
                  refine V_if_ne (tgt := 75) dX1_worth_53 rfl (by first | assumption | (unfold ri at *; omega)) (fun b53 => ?_) (fun b53 => ?_)
                  · refine V_il4 dX1_worth_75 ?_
                    refine V_iconst dX1_worth_77 ?_
                    refine V_icmp_ne (tgt := 107) dX1_worth_78 rfl (by first | assumption | (unfold ri at *; omega)) (by first | assumption | (unfold ri at *; omega)) (fun b78 => ?_) (fun b78 => ?_)
                    · refine V_il4 dX1_worth_107 ?_
                      refine V_iconst dX1_worth_109 ?_
                      refine V_icmp_ne (tgt := 147) dX1_worth_110 rfl (by first | assumption | (unfold ri at *; omega)) (by first | assumption | (unfold ri at *; omega)) (fun b110 => ?_) (fun b110 => ?_)
                      · exfalso; omega
                      · refine V_il2n dX1_worth_113 ?_
                        refine V_iconst dX1_worth_114 ?_
                        refine V_icmp_lt (tgt := 147) dX1_worth_115 rfl (by first | assumption | (unfold ri at *; omega)) (by first | assumption | (unfold ri at *; omega)) (fun b115 => ?_) (fun b115 => ?_)
                        · exfalso; omega
                        · refine V_al0n dX1_worth_118 ?_
                          refine V_getR (kb_17 hb) (kl_17 hb) fl_X1_28 (fb_17_5 hρ hb) dX1_worth_119 ?_
                          refine V_il2n dX1_worth_122 ?_
                          refine V_iconst dX1_worth_123 ?_
                          refine V_isub dX1_worth_124 ?_
                          refine V_al0n dX1_worth_125 ?_
                          refine V_getR (kb_17 hb) (kl_17 hb) fl_X1_28 (fb_17_5 hρ hb) dX1_worth_126 ?_
                          refine V_il2n dX1_worth_129 ?_
                          refine V_iconst dX1_worth_130 ?_
                          refine V_isub dX1_worth_131 ?_
                          refine V_lald (k := s.length) (kb_22 hb) (kl_22 hb) (by first | rfl | omega) (by omega) (by first | decide | assumption | omega) gx dX1_worth_132 ?_
                          refine V_lconst (a := 0) dX1_worth_133 rfl ?_
                          refine V_lif_ne (tgt := 142) dX1_worth_134 dX1_worth_135 rfl (by unfold rl; omega) (by unfold rl; omega) (fun b135 => ?_) (fun b135 => ?_)
                          · refine V_lconst (a := 0) dX1_worth_142 rfl ?_
                            refine V_last (k := s.length) (kb_22 hb) (kl_22 hb) (by first | rfl | omega) (by omega) (by first | decide | assumption | omega) dX1_worth_143 ?_
                            refine V_goto (tgt := 210) dX1_worth_144 rfl ?_
                            refine V_inc3 dX1_worth_210 (by decide) rfl ?_
                            refine V_goto (tgt := 21) dX1_worth_213 rfl ?_
                            exact V_weak (by repeat (first | exact wk_n | refine wk_c (Or.inr rfl) ?_ | refine wk_c (Or.inl rfl) ?_)) st
                          · exact absurd b135 z
                    · exfalso; omega
                  · exfalso; omega
        · have c3 : 3 ≤ T 130 (lo + n) := by omega
          have hsw : 3 ≤ swp (T 130 (lo + n)) ∧ swp (T 130 (lo + n)) ≤ 14 := by unfold swp; (repeat' split) <;> omega
          have hss : swp (swp (T 130 (lo + n))) = T 130 (lo + n) := by unfold swp; (repeat' split) <;> omega
          have hv0 := hs1.1
          obtain ⟨y, x, s, hxs, hx, hy⟩ := hsn.2.2.2.2.2 c3
          rw [hxs] at hsp step hlen ⊢
          have gy : g (b + 22) (s.length + 1) = val y := hsp.1.1
          have gx : g (b + 22) s.length = val x := hsp.2.1.1
          have hyB := hsp.1.2
          have hxB := hsp.2.1.2
          have hj := jn_bin hsw hxB hyB
          have hjr := jn_rng (s := swp (T 130 (lo + n))) hxB hyB
          have ek : kv T nm val (lo + n) = bin (T 130 (lo + n)) (val x) (val y) := by unfold kv; rw [if_neg c0, if_neg c1, if_neg c2, hx, hy, Int.toNat_natCast, Int.toNat_natCast]
          rw [hss] at hj
          rw [hj] at ek
          simp only [List.length_cons] at hlen ⊢
          generalize swp (T 130 (lo + n)) = sg at *
          generalize ejv : jnv sg (val x) (val y) = jv at *
          have hov : over jv = true ↔ (1000000000000 < jv ∨ jv < -1000000000000) := by unfold over; simp
          by_cases o : over jv = true
          · rw [if_pos o] at ek
            rw [ek] at hR
            have o' := hov.mp o
            have hQ' : ∀ g, KGs b g0 g → Q (some (.long (lz ERR))) ρ f g := fun g hg => by have := hQ g hg; rw [hR] at this; exact this
            refine V_il3n dX1_worth_21 ?_
            refine V_al0n dX1_worth_22 ?_
            refine V_getR (kb_17 hb) (kl_17 hb) fl_X1_25 (fb_17_4 hρ hb) dX1_worth_23 ?_
            refine V_il1n dX1_worth_26 ?_
            refine V_iald (k := w) (kb_21 hb) (kl_21 hb) (by first | rfl | omega) (by omega) (by first | decide | assumption | omega) e29' dX1_worth_27 ?_
            refine V_icmp_ge (tgt := 216) dX1_worth_28 rfl (by unfold ri; omega) (by unfold ri; omega) (fun b28 => ?_) (fun b28 => ?_)
            · exfalso; omega
            · refine V_il3n dX1_worth_31 ?_
              refine V_bipush dX1_worth_32 rfl ?_
              refine V_icmp_ge (tgt := 216) dX1_worth_34 rfl (by unfold ri; omega) (by unfold ri; omega) (fun b34 => ?_) (fun b34 => ?_)
              · exfalso; omega
              · refine V_il2n dX1_worth_37 ?_
                refine V_bipush dX1_worth_38 rfl ?_
                refine V_icmp_ge (tgt := 216) dX1_worth_40 rfl (by unfold ri; omega) (by unfold ri; omega) (fun b40 => ?_) (fun b40 => ?_)
                · exfalso; omega
                · refine V_al0n dX1_worth_43 ?_
                  refine V_getR (kb_17 hb) (kl_17 hb) fl_X1_11 (fb_17_0 hρ hb) dX1_worth_44 ?_
                  refine V_il3n dX1_worth_47 ?_
                  refine V_iald (k := (lo + n)) (kb_18 hb) (kl_18 hb) (by first | rfl | omega) (by omega) (by first | decide | assumption | omega) hv0 dX1_worth_48 ?_
                  refine V_is4 dX1_worth_49 (by decide) rfl ?_
                  refine V_il4 dX1_worth_51 ?_
                  refine V_if_ne (tgt := 75) dX1_worth_53 rfl (by unfold ri; omega) (fun b53 => ?_) (fun b53 => ?_)
                  · refine V_il4 dX1_worth_75 ?_
                    refine V_iconst dX1_worth_77 ?_
                    refine V_icmp_ne (tgt := 107) dX1_worth_78 rfl (by unfold ri; omega) (by unfold ri; omega) (fun b78 => ?_) (fun b78 => ?_)
                    · refine V_il4 dX1_worth_107 ?_
                      refine V_iconst dX1_worth_109 ?_
                      refine V_icmp_ne (tgt := 147) dX1_worth_110 rfl (by unfold ri; omega) (by unfold ri; omega) (fun b110 => ?_) (fun b110 => ?_)
                      · refine V_il2n dX1_worth_147 ?_
                        refine V_iconst dX1_worth_148 ?_
                        refine V_icmp_lt (tgt := 210) dX1_worth_149 rfl (by first | assumption | (unfold ri at *; omega)) (by first | assumption | (unfold ri at *; omega)) (fun b149 => ?_) (fun b149 => ?_)
                        · exfalso; omega
                        · refine V_il4 dX1_worth_152 ?_
                          refine V_al0n dX1_worth_154 ?_
                          refine V_getR (kb_17 hb) (kl_17 hb) fl_X1_28 (fb_17_5 hρ hb) dX1_worth_155 ?_
                          refine V_il2n dX1_worth_158 ?_
                          refine V_iconst dX1_worth_159 ?_
                          refine V_isub dX1_worth_160 ?_
                          refine V_lald (k := s.length) (kb_22 hb) (kl_22 hb) (by first | rfl | omega) (by omega) (by first | decide | assumption | omega) gx dX1_worth_161 ?_
                          refine V_al0n dX1_worth_162 ?_
                          refine V_getR (kb_17 hb) (kl_17 hb) fl_X1_28 (fb_17_5 hρ hb) dX1_worth_163 ?_
                          refine V_il2n dX1_worth_166 ?_
                          refine V_iconst dX1_worth_167 ?_
                          refine V_isub dX1_worth_168 ?_
                          refine V_lald (k := (s.length + 1)) (kb_22 hb) (kl_22 hb) (by first | rfl | omega) (by omega) (by first | decide | assumption | omega) gy dX1_worth_169 ?_
                          refine V_callS (as := [_, _, _]) ml_X1_50 sm_X1_join dX1_worth_170 rfl rfl (by decide) (by decide) (Nat.le_of_ble_eq_true rfl) (by decide) (by decide) rfl ((ejv ▸ c_join hsw hxB hyB)) ?_
                          refine pq4 ?_
                          refine V_ls5 dX1_worth_173 (by decide) rfl ?_
                          refine V_ll5 dX1_worth_175 ?_
                          refine V_ldc2_w (a := 1000000000000) kl_X1_54 rfl dX1_worth_177 ?_
                          refine V_lif_gt (tgt := 193) dX1_worth_180 dX1_worth_181 rfl hjr (by unfold rl; omega) (fun b181 => ?_) (fun b181 => ?_)
                          · refine V_ldc2_w (a := -9223372036854775808) kl_X1_48 rfl dX1_worth_193 ?_
                            exact V_lreturn rfl (hQ' g hg) dX1_worth_196
                          · refine V_ll5 dX1_worth_184 ?_
                            refine V_ldc2_w (a := -1000000000000) kl_X1_56 rfl dX1_worth_186 ?_
                            refine V_lif_ge (tgt := 197) dX1_worth_189 dX1_worth_190 rfl hjr (by unfold rl; omega) (fun b190 => ?_) (fun b190 => ?_)
                            · exfalso; omega
                            · refine V_ldc2_w (a := -9223372036854775808) kl_X1_48 rfl dX1_worth_193 ?_
                              exact V_lreturn rfl (hQ' g hg) dX1_worth_196
                      · exfalso; omega
                    · exfalso; omega
                  · exfalso; omega
          · rw [if_neg o] at ek
            have o' : ¬ (1000000000000 < jv ∨ jv < -1000000000000) := fun q => o (hov.mpr q)
            have st := step jv 2 _ ek (by unfold inB; omega) (by simp only [pst]; rw [if_neg (by omega), if_neg c2, hxs]) rfl
            simp only [List.drop_succ_cons, List.drop_zero] at st
            rw [show (((s.length + 1 : Nat)) : Int) = ((s.length + 1 + 1 : Nat) : Int) + -1 by omega] at st
            refine V_il3n dX1_worth_21 ?_
            refine V_al0n dX1_worth_22 ?_
            refine V_getR (kb_17 hb) (kl_17 hb) fl_X1_25 (fb_17_4 hρ hb) dX1_worth_23 ?_
            refine V_il1n dX1_worth_26 ?_
            refine V_iald (k := w) (kb_21 hb) (kl_21 hb) (by first | rfl | omega) (by omega) (by first | decide | assumption | omega) e29' dX1_worth_27 ?_
            refine V_icmp_ge (tgt := 216) dX1_worth_28 rfl (by unfold ri; omega) (by unfold ri; omega) (fun b28 => ?_) (fun b28 => ?_)
            · exfalso; omega
            · refine V_il3n dX1_worth_31 ?_
              refine V_bipush dX1_worth_32 rfl ?_
              refine V_icmp_ge (tgt := 216) dX1_worth_34 rfl (by unfold ri; omega) (by unfold ri; omega) (fun b34 => ?_) (fun b34 => ?_)
              · exfalso; omega
              · refine V_il2n dX1_worth_37 ?_
                refine V_bipush dX1_worth_38 rfl ?_
                refine V_icmp_ge (tgt := 216) dX1_worth_40 rfl (by unfold ri; omega) (by unfold ri; omega) (fun b40 => ?_) (fun b40 => ?_)
                · exfalso; omega
                · refine V_al0n dX1_worth_43 ?_
                  refine V_getR (kb_17 hb) (kl_17 hb) fl_X1_11 (fb_17_0 hρ hb) dX1_worth_44 ?_
                  refine V_il3n dX1_worth_47 ?_
                  refine V_iald (k := (lo + n)) (kb_18 hb) (kl_18 hb) (by first | rfl | omega) (by omega) (by first | decide | assumption | omega) hv0 dX1_worth_48 ?_
                  refine V_is4 dX1_worth_49 (by decide) rfl ?_
                  refine V_il4 dX1_worth_51 ?_
                  refine V_if_ne (tgt := 75) dX1_worth_53 rfl (by unfold ri; omega) (fun b53 => ?_) (fun b53 => ?_)
                  · refine V_il4 dX1_worth_75 ?_
                    refine V_iconst dX1_worth_77 ?_
                    refine V_icmp_ne (tgt := 107) dX1_worth_78 rfl (by unfold ri; omega) (by unfold ri; omega) (fun b78 => ?_) (fun b78 => ?_)
                    · refine V_il4 dX1_worth_107 ?_
                      refine V_iconst dX1_worth_109 ?_
                      refine V_icmp_ne (tgt := 147) dX1_worth_110 rfl (by unfold ri; omega) (by unfold ri; omega) (fun b110 => ?_) (fun b110 => ?_)
                      · refine V_il2n dX1_worth_147 ?_
                        refine V_iconst dX1_worth_148 ?_
                        refine V_icmp_lt (tgt := 210) dX1_worth_149 rfl (by first | assumption | (unfold ri at *; omega)) (by first | assumption | (unfold ri at *; omega)) (fun b149 => ?_) (fun b149 => ?_)
                        · exfalso; omega
                        · refine V_il4 dX1_worth_152 ?_
                          refine V_al0n dX1_worth_154 ?_
                          refine V_getR (kb_17 hb) (kl_17 hb) fl_X1_28 (fb_17_5 hρ hb) dX1_worth_155 ?_
                          refine V_il2n dX1_worth_158 ?_
                          refine V_iconst dX1_worth_159 ?_
                          refine V_isub dX1_worth_160 ?_
                          refine V_lald (k := s.length) (kb_22 hb) (kl_22 hb) (by first | rfl | omega) (by omega) (by first | decide | assumption | omega) gx dX1_worth_161 ?_
                          refine V_al0n dX1_worth_162 ?_
                          refine V_getR (kb_17 hb) (kl_17 hb) fl_X1_28 (fb_17_5 hρ hb) dX1_worth_163 ?_
                          refine V_il2n dX1_worth_166 ?_
                          refine V_iconst dX1_worth_167 ?_
                          refine V_isub dX1_worth_168 ?_
                          refine V_lald (k := (s.length + 1)) (kb_22 hb) (kl_22 hb) (by first | rfl | omega) (by omega) (by first | decide | assumption | omega) gy dX1_worth_169 ?_
                          refine V_callS (as := [_, _, _]) ml_X1_50 sm_X1_join dX1_worth_170 rfl rfl (by decide) (by decide) (Nat.le_of_ble_eq_true rfl) (by decide) (by decide) rfl ((ejv ▸ c_join hsw hxB hyB)) ?_
                          refine pq4 ?_
                          refine V_ls5 dX1_worth_173 (by decide) rfl ?_
                          refine V_ll5 dX1_worth_175 ?_
                          refine V_ldc2_w (a := 1000000000000) kl_X1_54 rfl dX1_worth_177 ?_
                          refine V_lif_gt (tgt := 193) dX1_worth_180 dX1_worth_181 rfl hjr (by unfold rl; omega) (fun b181 => ?_) (fun b181 => ?_)
                          · exfalso; omega
                          · refine V_ll5 dX1_worth_184 ?_
                            refine V_ldc2_w (a := -1000000000000) kl_X1_56 rfl dX1_worth_186 ?_
                            refine V_lif_ge (tgt := 197) dX1_worth_189 dX1_worth_190 rfl hjr (by unfold rl; omega) (fun b190 => ?_) (fun b190 => ?_)
                            · refine V_inc2 dX1_worth_197 (by decide) rfl ?_
                              refine V_al0n dX1_worth_200 ?_
                              refine V_getR (kb_17 hb) (kl_17 hb) fl_X1_28 (fb_17_5 hρ hb) dX1_worth_201 ?_
                              refine V_il2n dX1_worth_204 ?_
                              refine V_iconst dX1_worth_205 ?_
                              refine V_isub dX1_worth_206 ?_
                              refine V_ll5 dX1_worth_207 ?_
                              refine V_last (k := s.length) (kb_22 hb) (kl_22 hb) (by first | rfl | omega) (by omega) (by first | decide | assumption | omega) dX1_worth_209 ?_
                              refine V_inc3 dX1_worth_210 (by decide) rfl ?_
                              refine V_goto (tgt := 21) dX1_worth_213 rfl ?_
                              exact V_weak (by repeat (first | exact wk_n | refine wk_c (Or.inr rfl) ?_ | refine wk_c (Or.inl rfl) ?_)) st
                            · exfalso; omega
                      · exfalso; omega
                    · exfalso; omega
                  · exfalso; omega
termination_by N - n
end WORTH

