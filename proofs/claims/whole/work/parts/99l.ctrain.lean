section CTRAIN
variable {T : TT}
/-- all loads of the weeks that are left, in their order -/
def trR (T : TT) (wt mo : Int) : Nat → Nat → TS → Int × Int × Int → Int × Int × Int
  | 0, _, s, b => wgh mo s b
  | r + 1, i, s, b => trR T wt mo r (i + 1) (wkS T wt i 3 s) (trR T wt mo r (i + 1) (wkS T wt i 2 s) (trR T wt mo r (i + 1) (wkS T wt i 1 s) (trR T wt mo r (i + 1) (wkS T wt i 0 s) b)))
def fdG (T : TT) (wt mo : Int) (r i : Nat) (s : TS) : Nat → Nat → Int × Int × Int → Int × Int × Int
  | 0, _, b => b
  | k + 1, c, b => fdG T wt mo r i s k (c + 1) (wgh mo (csr T wt r i s c) b)
theorem fdT_G {wt mo : Int} {n : Nat} : ∀ (k c : Nat) (b : Int × Int × Int), fdT T wt mo n k c b = fdG T wt mo n 0 (0, 0, 0, 0) k c b
  | 0, _, _ => rfl
  | k + 1, c, b => by rw [fdT, fdG, fdT_G k]
theorem fdG_add {wt mo : Int} {r i : Nat} {s : TS} : ∀ (k1 k2 c : Nat) (b : Int × Int × Int), fdG T wt mo r i s (k1 + k2) c b = fdG T wt mo r i s k2 (c + k1) (fdG T wt mo r i s k1 c b)
  | 0, k2, c, b => by rw [Nat.zero_add, fdG, Nat.add_zero]
  | k1 + 1, k2, c, b => by
    rw [show k1 + 1 + k2 = (k1 + k2) + 1 by omega, fdG, fdG, fdG_add k1 k2 (c + 1)]
    congr 1
    omega
theorem fdG_sub {wt mo : Int} {r i : Nat} {s : TS} {d : Nat} : ∀ (k c : Nat) (b : Int × Int × Int), (∀ c', c ≤ c' → c' < c + k → c' / 2 ^ (2 * r) % 4 = d) → fdG T wt mo (r + 1) i s k c b = fdG T wt mo r (i + 1) (wkS T wt i (d : Int) s) k c b
  | 0, _, _, _ => rfl
  | k + 1, c, b, h => by
    rw [fdG, fdG, csr, h c (by omega) (by omega), fdG_sub k (c + 1) _ (fun c' h1 h2 => h c' (by omega) (by omega))]
theorem pw4 (r : Nat) : (2 : Nat) ^ (2 * (r + 1)) = 2 ^ (2 * r) + 2 ^ (2 * r) + 2 ^ (2 * r) + 2 ^ (2 * r) := by
  rw [show 2 * (r + 1) = 2 * r + 2 by omega, Nat.pow_add]
  omega
theorem dgt4 {r q d c' : Nat} (hd : d < 4) (h1 : (4 * q + d) * 2 ^ (2 * r) ≤ c') (h2 : c' < (4 * q + d) * 2 ^ (2 * r) + 2 ^ (2 * r)) : c' / 2 ^ (2 * r) % 4 = d := by
  have hp : 0 < 2 ^ (2 * r) := Nat.pow_pos (by omega)
  have : c' / 2 ^ (2 * r) = 4 * q + d := by
    apply Nat.div_eq_of_lt_le h1
    rw [Nat.add_mul, Nat.one_mul]
    exact h2
  omega
theorem fdG_tr {wt mo : Int} : ∀ (r i : Nat) (s : TS) (q : Nat) (b : Int × Int × Int), fdG T wt mo r i s (2 ^ (2 * r)) (q * 2 ^ (2 * r)) b = trR T wt mo r i s b
  | 0, i, s, q, b => by simp [fdG, trR, csr]
  | r + 1, i, s, q, b => by
    have e0 : q * 2 ^ (2 * (r + 1)) = (4 * q + 0) * 2 ^ (2 * r) := by rw [pw4]; rw [Nat.mul_add, Nat.mul_add, Nat.mul_add]; rw [show 4 * q + 0 = q + q + q + q by omega, Nat.add_mul, Nat.add_mul, Nat.add_mul]
    have e1 : ∀ d d', d' = d + 1 → (4 * q + d) * 2 ^ (2 * r) + 2 ^ (2 * r) = (4 * q + d') * 2 ^ (2 * r) := fun d d' hd => by rw [hd, show 4 * q + (d + 1) = (4 * q + d) + 1 by omega, Nat.add_mul (4 * q + d) 1, Nat.one_mul]
    have st : ∀ (d : Nat) (b : Int × Int × Int), d < 4 → fdG T wt mo (r + 1) i s (2 ^ (2 * r)) ((4 * q + d) * 2 ^ (2 * r)) b = trR T wt mo r (i + 1) (wkS T wt i (d : Int) s) b := fun d b hd => by
      rw [fdG_sub (d := d) _ _ _ (fun c' h1 h2 => dgt4 hd h1 h2), fdG_tr r (i + 1) _ (4 * q + d) b]
    rw [e0, pw4, fdG_add, fdG_add, fdG_add, ← Nat.add_assoc, ← Nat.add_assoc, e1 0 1 rfl, e1 1 2 rfl, e1 2 3 rfl, st 0 _ (by omega), st 1 _ (by omega), st 2 _ (by omega), st 3 _ (by omega), trR]
    rfl
theorem trT_R {wt mo : Int} {n : Nat} : trT T wt mo n = trR T wt mo n 0 (0, 0, 0, 0) (-99, -1, -1) := by
  unfold trT
  rw [fdT_G]
  have := fdG_tr (T := T) (wt := wt) (mo := mo) n 0 (0, 0, 0, 0) 0 (-99, -1, -1)
  rw [Nat.zero_mul] at this
  exact this
theorem wkS_harm {wt : Int} {i : Nat} {ld : Int} {s : TS} : s.2.2.1 ≤ (wkS T wt i ld s).2.2.1 := by
  have hb := bl_rng (T := T) (nm := tnm wt i ld s.1 s.2.1) (w := 5) (wo := 0) (lo := 0) (hi := 99) (by omega) (by omega)
  simp only [wkS]
  omega
/-- too much harm already -/
theorem trR_out {wt mo : Int} : ∀ (r i : Nat) (s : TS) (b : Int × Int × Int), mo < s.2.2.1 → trR T wt mo r i s b = b
  | 0, _, s, b, h => by rw [trR, wgh, if_pos (Or.inl h)]
  | r + 1, i, s, b, h => by
    have w : ∀ ld, mo < (wkS T wt i ld s).2.2.1 := fun ld => by have := wkS_harm (T := T) (wt := wt) (i := i) (ld := ld) (s := s); omega
    rw [trR, trR_out r _ _ _ (w 0), trR_out r _ _ _ (w 1), trR_out r _ _ _ (w 2), trR_out r _ _ _ (w 3)]
theorem wgh_rng {mo : Int} (hmo : 0 ≤ mo ∧ mo ≤ 999) {s : TS} {i : Nat} (hi : i ≤ 6) (hs : TSR i s) {b : Int × Int × Int} (hb : (-99 ≤ b.1 ∧ b.1 ≤ 60) ∧ (-1 ≤ b.2.1 ∧ b.2.1 ≤ 999) ∧ (-1 ≤ b.2.2 ∧ b.2.2 ≤ 4096)) : ((-99 ≤ (wgh mo s b).1 ∧ (wgh mo s b).1 ≤ 60) ∧ (-1 ≤ (wgh mo s b).2.1 ∧ (wgh mo s b).2.1 ≤ 999) ∧ (-1 ≤ (wgh mo s b).2.2 ∧ (wgh mo s b).2.2 ≤ 4096)) := by
  obtain ⟨h1, h2, h3, h4⟩ := hs
  have h5 : (2 : Int) ^ (2 * i) ≤ 4096 := by
    rcases (show i = 0 ∨ i = 1 ∨ i = 2 ∨ i = 3 ∨ i = 4 ∨ i = 5 ∨ i = 6 by omega) with e | e | e | e | e | e | e <;> rw [e] <;> decide
  unfold wgh
  split
  · exact hb
  · simp only
    omega
/-- what the class keeps of the best -/
def TrE (b : Int × Int × Int) (f : IT) : Prop := ((-99 ≤ b.1 ∧ b.1 ≤ 60) ∧ (-1 ≤ b.2.1 ∧ b.2.1 ≤ 999) ∧ (-1 ≤ b.2.2 ∧ b.2.2 ≤ 4096)) ∧ ((f 72 3 = 0 ∧ b = (-99, -1, -1)) ∨ (f 72 3 = 1 ∧ 0 ≤ b.2.2 ∧ f 72 4 = b.1 ∧ f 72 5 = b.2.1 ∧ f 72 6 = b.2.2))
theorem TrE.cg {b : Int × Int × Int} {f f' : IT} (h : TrE b f) (e : ∀ k, 3 ≤ k → f' 72 k = f 72 k) : TrE b f' := by
  unfold TrE
  rw [e 3 (by omega), e 4 (by omega), e 5 (by omega), e 6 (by omega)]
  exact h
def TrK (b : Nat) (f : IT) (g : JT) (f' : IT) (g' : JT) : Prop := (∀ a k, ¬ (a = 72 ∧ 3 ≤ k) → f' a k = f a k) ∧ ∀ a, a ≠ b + 22 → a ≠ b + 23 → g' a = g a
theorem TrK.rf {b : Nat} {f : IT} {g : JT} : TrK b f g f g := ⟨fun _ _ _ => rfl, fun _ _ _ => rfl⟩
theorem TrK.tr {b : Nat} {f f' f'' : IT} {g g' g'' : JT} (h : TrK b f g f' g') (h' : TrK b f' g' f'' g'') : TrK b f g f'' g'' := ⟨fun a k q => (h'.1 a k q).trans (h.1 a k q), fun a q r => (h'.2 a q r).trans (h.2 a q r)⟩
section TRC
variable {b : Nat} {ρ : RT} {f : IT} {g : JT}
theorem c_tbounded {n : Int} (hn : ri n) : C_X8_bounded [.int (iz n)] ρ f g (fun r ρ' f' g' => r = some (.int (iz (clampF n))) ∧ ρ' = ρ ∧ f' = f ∧ g' = g) := by
  refine Ct.ofV (by decide) rfl (Nat.le_of_ble_eq_true rfl) ?_
  have hr : ri (if n < 60 then n else 60) := by unfold ri at *; split <;> omega
  refine V_iconst dX8_bounded_0 ?_
  refine V_bipush dX8_bounded_1 rfl ?_
  refine V_il0n dX8_bounded_3 ?_
  refine V_mmin ml_X8_60 sm_J9_min_7cf53 dX8_bounded_4 (by unfold ri; omega) hn (by decide) (Nat.le_of_ble_eq_true rfl) (by decide) (by decide) ?_
  refine V_mmax ml_X8_66 sm_J9_max_7cf53 dX8_bounded_7 (by unfold ri; omega) hr (by decide) (Nat.le_of_ble_eq_true rfl) (by decide) (by decide) ?_
  exact V_ireturn rfl ⟨by unfold clampF; congr 3; (repeat' split) <;> omega, rfl, rfl, rfl⟩ dX8_bounded_10
theorem c_weigh {mo : Int} (hmo : 0 ≤ mo ∧ mo ≤ 999) {s : TS} {i : Nat} (hi : i ≤ 6) (hs : TSR i s) (hh : s.2.2.1 ≤ mo) {B : Int × Int × Int} (hB : TrE B f) : C_X8_weigh [.ref 72, .int (iz (s.1 - s.2.1)), .int (iz s.2.2.1), .int (iz s.2.2.2)] ρ f g (fun r ρ' f' g' => r = none ∧ ρ' = ρ ∧ TrE (wgh mo s B) f' ∧ TrK b f g f' g') := by
  have hw := wgh_rng hmo hi hs hB.1
  obtain ⟨h1, h2, h3, h4⟩ := hs
  refine Ct.ofV (by decide) rfl (Nat.le_of_ble_eq_true rfl) ?_
  rcases hB.2 with ⟨e3, eB⟩ | ⟨e3, z, e4, e5, e6⟩
  · have ew : wgh mo s B = (s.1 - s.2.1, s.2.2.1, s.2.2.2) := by
      unfold wgh
      rw [eB, if_neg (by simp only; omega)]
    rw [ew] at hw ⊢
    refine V_al0n dX8_weigh_0 ?_
    refine V_getZ kk72 (by decide) fl_X8_21 e3 dX8_weigh_1 ?_
    refine V_if_eq (tgt := 31) dX8_weigh_4 rfl (by unfold ri; omega) (fun b4 => ?_) (fun b4 => ?_)
    · refine V_al0n dX8_weigh_31 ?_
      refine V_iconst dX8_weigh_32 ?_
      refine V_putZ kk72 (by decide) fl_X8_21 rfl (by first | exact Or.inl rfl | exact Or.inr rfl | (unfold bz; split <;> simp)) dX8_weigh_33 ?_
      refine V_al0n dX8_weigh_36 ?_
      refine V_il1n dX8_weigh_37 ?_
      refine V_putI kk72 (by decide) fl_X8_25 rfl dX8_weigh_38 ?_
      refine V_al0n dX8_weigh_41 ?_
      refine V_il2n dX8_weigh_42 ?_
      refine V_putI kk72 (by decide) fl_X8_28 rfl dX8_weigh_43 ?_
      refine V_al0n dX8_weigh_46 ?_
      refine V_il3n dX8_weigh_47 ?_
      refine V_putI kk72 (by decide) fl_X8_31 rfl dX8_weigh_48 ?_
      exact V_return rfl ⟨rfl, rfl, ⟨hw, Or.inr ⟨by simp [u2], h4.1, by simp [u2], by simp [u2], by simp [u2]⟩⟩, fun a k q => by rw [u2_o (by omega), u2_o (by omega), u2_o (by omega), u2_o (by omega)], fun _ _ _ => rfl⟩ dX8_weigh_51
    · exfalso; omega
  · obtain ⟨z1, z2, z3⟩ := hB.1
    refine V_al0n dX8_weigh_0 ?_
    refine V_getZ kk72 (by decide) fl_X8_21 e3 dX8_weigh_1 ?_
    refine V_if_eq (tgt := 31) dX8_weigh_4 rfl (by unfold ri; omega) (fun b4 => ?_) (fun b4 => ?_)
    · exfalso; omega
    · refine V_il1n dX8_weigh_7 ?_
      refine V_al0n dX8_weigh_8 ?_
      refine V_getI kk72 (by decide) fl_X8_25 e4 dX8_weigh_9 ?_
      refine V_icmp_gt (tgt := 31) dX8_weigh_12 rfl (by unfold ri; omega) (by unfold ri; omega) (fun b12 => ?_) (fun b12 => ?_)
      · refine V_al0n dX8_weigh_31 ?_
        refine V_iconst dX8_weigh_32 ?_
        refine V_putZ kk72 (by decide) fl_X8_21 rfl (by first | exact Or.inl rfl | exact Or.inr rfl | (unfold bz; split <;> simp)) dX8_weigh_33 ?_
        refine V_al0n dX8_weigh_36 ?_
        refine V_il1n dX8_weigh_37 ?_
        refine V_putI kk72 (by decide) fl_X8_25 rfl dX8_weigh_38 ?_
        refine V_al0n dX8_weigh_41 ?_
        refine V_il2n dX8_weigh_42 ?_
        refine V_putI kk72 (by decide) fl_X8_28 rfl dX8_weigh_43 ?_
        refine V_al0n dX8_weigh_46 ?_
        refine V_il3n dX8_weigh_47 ?_
        refine V_putI kk72 (by decide) fl_X8_31 rfl dX8_weigh_48 ?_
        exact V_return rfl (by
  first
  | (have ew : wgh mo s B = B := (by unfold wgh; rw [if_pos (by omega)]); rw [ew]; exact ⟨rfl, rfl, hB, TrK.rf⟩)
  | (have ew : wgh mo s B = (s.1 - s.2.1, s.2.2.1, s.2.2.2) := (by unfold wgh; rw [if_neg (by omega)]); rw [ew] at hw ⊢; exact ⟨rfl, rfl, ⟨hw, Or.inr ⟨by simp [u2], h4.1, by simp [u2], by simp [u2], by simp [u2]⟩⟩, fun a k q => by rw [u2_o (by omega), u2_o (by omega), u2_o (by omega), u2_o (by omega)], fun _ _ _ => rfl⟩)) dX8_weigh_51
      · refine V_il1n dX8_weigh_15 ?_
        refine V_al0n dX8_weigh_16 ?_
        refine V_getI kk72 (by decide) fl_X8_25 e4 dX8_weigh_17 ?_
        refine V_icmp_ne (tgt := 51) dX8_weigh_20 rfl (by unfold ri; omega) (by unfold ri; omega) (fun b20 => ?_) (fun b20 => ?_)
        · exact V_return rfl (by
  first
  | (have ew : wgh mo s B = B := (by unfold wgh; rw [if_pos (by omega)]); rw [ew]; exact ⟨rfl, rfl, hB, TrK.rf⟩)
  | (have ew : wgh mo s B = (s.1 - s.2.1, s.2.2.1, s.2.2.2) := (by unfold wgh; rw [if_neg (by omega)]); rw [ew] at hw ⊢; exact ⟨rfl, rfl, ⟨hw, Or.inr ⟨by simp [u2], h4.1, by simp [u2], by simp [u2], by simp [u2]⟩⟩, fun a k q => by rw [u2_o (by omega), u2_o (by omega), u2_o (by omega), u2_o (by omega)], fun _ _ _ => rfl⟩)) dX8_weigh_51
        · refine V_il2n dX8_weigh_23 ?_
          refine V_al0n dX8_weigh_24 ?_
          refine V_getI kk72 (by decide) fl_X8_28 e5 dX8_weigh_25 ?_
          refine V_icmp_ge (tgt := 51) dX8_weigh_28 rfl (by unfold ri; omega) (by unfold ri; omega) (fun b28 => ?_) (fun b28 => ?_)
          · exact V_return rfl (by
  first
  | (have ew : wgh mo s B = B := (by unfold wgh; rw [if_pos (by omega)]); rw [ew]; exact ⟨rfl, rfl, hB, TrK.rf⟩)
  | (have ew : wgh mo s B = (s.1 - s.2.1, s.2.2.1, s.2.2.2) := (by unfold wgh; rw [if_neg (by omega)]); rw [ew] at hw ⊢; exact ⟨rfl, rfl, ⟨hw, Or.inr ⟨by simp [u2], h4.1, by simp [u2], by simp [u2], by simp [u2]⟩⟩, fun a k q => by rw [u2_o (by omega), u2_o (by omega), u2_o (by omega), u2_o (by omega)], fun _ _ _ => rfl⟩)) dX8_weigh_51
          · refine V_al0n dX8_weigh_31 ?_
            refine V_iconst dX8_weigh_32 ?_
            refine V_putZ kk72 (by decide) fl_X8_21 rfl (by first | exact Or.inl rfl | exact Or.inr rfl | (unfold bz; split <;> simp)) dX8_weigh_33 ?_
            refine V_al0n dX8_weigh_36 ?_
            refine V_il1n dX8_weigh_37 ?_
            refine V_putI kk72 (by decide) fl_X8_25 rfl dX8_weigh_38 ?_
            refine V_al0n dX8_weigh_41 ?_
            refine V_il2n dX8_weigh_42 ?_
            refine V_putI kk72 (by decide) fl_X8_28 rfl dX8_weigh_43 ?_
            refine V_al0n dX8_weigh_46 ?_
            refine V_il3n dX8_weigh_47 ?_
            refine V_putI kk72 (by decide) fl_X8_31 rfl dX8_weigh_48 ?_
            exact V_return rfl (by
  first
  | (have ew : wgh mo s B = B := (by unfold wgh; rw [if_pos (by omega)]); rw [ew]; exact ⟨rfl, rfl, hB, TrK.rf⟩)
  | (have ew : wgh mo s B = (s.1 - s.2.1, s.2.2.1, s.2.2.2) := (by unfold wgh; rw [if_neg (by omega)]); rw [ew] at hw ⊢; exact ⟨rfl, rfl, ⟨hw, Or.inr ⟨by simp [u2], h4.1, by simp [u2], by simp [u2], by simp [u2]⟩⟩, fun a k q => by rw [u2_o (by omega), u2_o (by omega), u2_o (by omega), u2_o (by omega)], fun _ _ _ => rfl⟩)) dX8_weigh_51
theorem c_tgive (hb : b = 5 ∨ b = 30) {wt i ld fo ti : Int} (h0 : f 72 0 = wt) (rw_ : ri wt) (ri_ : ri i) (rl_ : ri ld) (rf_ : ri fo) (rt_ : ri ti) : C_X8_give [.ref 72, .ref (b + 23), .int (iz i), .int (iz ld), .int (iz fo), .int (iz ti)] ρ f g (fun r ρ' f' g' => r = none ∧ ρ' = ρ ∧ f' = f ∧ GV b (tnm wt i ld fo ti) g g') := by
  refine Ct.ofV (by decide) rfl (Nat.le_of_ble_eq_true rfl) ?_
  refine V_al1n dX8_give_0 ?_
  refine V_iconst dX8_give_1 ?_
  refine V_il2n dX8_give_2 ?_
  refine V_i2l dX8_give_3 (by first | assumption | (unfold ri at *; omega)) ?_
  refine V_last (k := 0) (kb_23 hb) (kl_23 hb) (by first | rfl | omega) (by omega) (by first | decide | assumption | omega) dX8_give_4 ?_
  refine V_al1n dX8_give_5 ?_
  refine V_iconst dX8_give_6 ?_
  refine V_lconst (a := 0) dX8_give_7 rfl ?_
  refine V_last (k := 1) (kb_23 hb) (kl_23 hb) (by first | rfl | omega) (by omega) (by first | decide | assumption | omega) dX8_give_8 ?_
  refine V_al1n dX8_give_9 ?_
  refine V_iconst dX8_give_10 ?_
  refine V_il3n dX8_give_11 ?_
  refine V_i2l dX8_give_12 (by first | assumption | (unfold ri at *; omega)) ?_
  refine V_last (k := 2) (kb_23 hb) (kl_23 hb) (by first | rfl | omega) (by omega) (by first | decide | assumption | omega) dX8_give_13 ?_
  refine V_al1n dX8_give_14 ?_
  refine V_iconst dX8_give_15 ?_
  refine V_al0n dX8_give_16 ?_
  refine V_getI kk72 (by decide) fl_X8_9 h0 dX8_give_17 ?_
  refine V_i2l dX8_give_20 (by first | assumption | (unfold ri at *; omega)) ?_
  refine V_last (k := 3) (kb_23 hb) (kl_23 hb) (by first | rfl | omega) (by omega) (by first | decide | assumption | omega) dX8_give_21 ?_
  refine V_al1n dX8_give_22 ?_
  refine V_iconst dX8_give_23 ?_
  refine V_il4 dX8_give_24 ?_
  refine V_i2l dX8_give_26 (by first | assumption | (unfold ri at *; omega)) ?_
  refine V_last (k := 4) (kb_23 hb) (kl_23 hb) (by first | rfl | omega) (by omega) (by first | decide | assumption | omega) dX8_give_27 ?_
  refine V_al1n dX8_give_28 ?_
  refine V_iconst dX8_give_29 ?_
  refine V_il5 dX8_give_30 ?_
  refine V_i2l dX8_give_32 (by first | assumption | (unfold ri at *; omega)) ?_
  refine V_last (k := 5) (kb_23 hb) (kl_23 hb) (by first | rfl | omega) (by omega) (by first | decide | assumption | omega) dX8_give_33 ?_
  refine V_al1n dX8_give_34 ?_
  refine V_bipush dX8_give_35 rfl ?_
  refine V_lconst (a := 0) dX8_give_37 rfl ?_
  refine V_last (k := 6) (kb_23 hb) (kl_23 hb) (by first | rfl | omega) (by omega) (by first | decide | assumption | omega) dX8_give_38 ?_
  refine V_al1n dX8_give_39 ?_
  refine V_bipush dX8_give_40 rfl ?_
  refine V_lconst (a := 0) dX8_give_42 rfl ?_
  refine V_last (k := 7) (kb_23 hb) (kl_23 hb) (by first | rfl | omega) (by omega) (by first | decide | assumption | omega) dX8_give_43 ?_
  exact V_return rfl ⟨rfl, rfl, rfl, fun n hn => by
  rcases (show n = 0 ∨ n = 1 ∨ n = 2 ∨ n = 3 ∨ n = 4 ∨ n = 5 ∨ n = 6 ∨ n = 7 by omega) with rfl | rfl | rfl | rfl | rfl | rfl | rfl | rfl <;> simp [u2, tnm], fun a ha => by funext j; rw [u2_o (by omega), u2_o (by omega), u2_o (by omega), u2_o (by omega), u2_o (by omega), u2_o (by omega), u2_o (by omega), u2_o (by omega)]⟩ dX8_give_44
end TRC
end CTRAIN

