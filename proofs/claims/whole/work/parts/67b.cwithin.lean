section WORTH
variable {T : TT} {b : Nat} {ρ : RT} {f : IT}
theorem c_worth {g : JT} (hρ : Fx ρ) (hb : b = 5 ∨ b = 30) (hC : CT T b f) (hk : TOK T) (hP : TPF T) {w : Nat} (hw : w < 8) {nm : Nat → Int} (hn : ∀ k, k < 8 → g (b + 23) k = nm k ∧ inB (nm k)) : C_X1_worth [.ref (b + 17), .int (iz (w : Int))] ρ f g (fun r ρ' f' g' => r = some (.long (lz (wthV T nm w))) ∧ ρ' = ρ ∧ f' = f ∧ KGs b g g') := by
  have ht := hk.law hw
  refine Ct.ofV (by decide) rfl (Nat.le_of_ble_eq_true rfl) ?_
  unfold wthV
  rcases ht.1 with t0 | t1
  · rw [if_neg (by omega)]
    refine V_al0n dX1_worth_0 ?_
    refine V_il1n dX1_worth_1 ?_
    refine V_callV (as := [_]) ml_X1_44 im_X1_has se_X1_has (kb_17 hb) (by decide) (kl_17 hb) dX1_worth_2 rfl rfl (by decide) (by decide) (Nat.le_of_ble_eq_true rfl) (by decide) (by decide) rfl (c_lhas hρ hb hC hk hw) ?_
    refine pq4 ?_
    refine V_bf (tgt := 12) dX1_worth_5 rfl (fun b5 => ?_) (fun b5 => ?_)
    · exfalso; simp at b5; omega
    · refine V_ldc2_w (a := -9223372036854775808) kl_X1_48 rfl dX1_worth_8 ?_
      exact V_lreturn rfl ⟨rfl, rfl, rfl, fun _ _ => rfl⟩ dX1_worth_11
  · rw [if_pos t1]
    obtain ⟨lo, N, e28, e29, hN, h64, hst, hps⟩ := hP w hw t1
    have hl := (hC.2.2.2.2.1 w hw).1 t1
    have e20 : f (b + 20) w = ((lo + 0 : Nat) : Int) := by rw [hl.1, e28]; omega
    have el : lawv T nm w = (evs T nm N lo (fun _ => 0)).map (fun val => val (lo + N - 1)) := by
      unfold lawv
      rw [e28, e29, show ((lo : Int) + N - lo).toNat = N by omega, Int.toNat_natCast, show ((lo : Int) + N - 1).toNat = lo + N - 1 by omega]
    rw [el]
    refine V_al0n dX1_worth_0 ?_
    refine V_il1n dX1_worth_1 ?_
    refine V_callV (as := [_]) ml_X1_44 im_X1_has se_X1_has (kb_17 hb) (by decide) (kl_17 hb) dX1_worth_2 rfl rfl (by decide) (by decide) (Nat.le_of_ble_eq_true rfl) (by decide) (by decide) rfl (c_lhas hρ hb hC hk hw) ?_
    refine pq4 ?_
    refine V_bf (tgt := 12) dX1_worth_5 rfl (fun b5 => ?_) (fun b5 => ?_)
    · refine V_iconst dX1_worth_12 ?_
      refine V_is2n dX1_worth_13 (by decide) rfl ?_
      refine V_al0n dX1_worth_14 ?_
      refine V_getR (kb_17 hb) (kl_17 hb) fl_X1_22 (fb_17_3 hρ hb) dX1_worth_15 ?_
      refine V_il1n dX1_worth_18 ?_
      refine V_iald (k := w) (kb_20 hb) (kl_20 hb) (by first | rfl | omega) (by omega) (by first | decide | assumption | omega) e20 dX1_worth_19 ?_
      refine V_is3n dX1_worth_20 (by decide) rfl ?_
      exact w_worth hρ hb hC hk hw e28 e29 t1 h64 hst hps hn (R := evs T nm N lo (fun _ => 0)) (fun g' hg' => ⟨rfl, rfl, rfl, hg'⟩) 0 (by omega) (fun _ => 0) g (fun _ _ => rfl) trivial rfl
    · exfalso; simp at b5; omega
theorem evs_inB {T : TT} {nm : Nat → Int} {lo : Nat} (hn : ∀ k, k < 8 → inB (nm k)) : ∀ (c i : Nat) (val u : Nat → Int), (∀ j, i ≤ j → j < i + c → KN T lo j) → (∀ j, lo ≤ j → j < i → inB (val j)) → evs T nm c i val = some u → ∀ j, lo ≤ j → j < i + c → inB (u j)
  | 0, i, val, u, _, hv, he => by simp only [evs] at he; cases he; exact hv
  | c + 1, i, val, u, hk, hv, he => by
    simp only [evs] at he
    cases e : kv T nm val i with
    | none => rw [e] at he; cases he
    | some v =>
      rw [e] at he
      have hvB : inB v := by
        obtain ⟨h0, h64, ho, hk0, hk1, hk2, hk3⟩ := hk i (by omega) (by omega)
        unfold kv at e
        split at e
        · cases e; have := hk0 (by assumption); unfold inB; omega
        · split at e
          · cases e; have := hk1 (by assumption); exact hn _ (by omega)
          · split at e
            · cases e; exact bz_inB _
            · have hx := hv (T 131 i).toNat (by omega) (by omega)
              have hy := hv (T 132 i).toNat (by omega) (by omega)
              unfold bin at e
              (repeat' split at e) <;> first | (cases e; done) | (cases e; exact bz_inB _) | (cases e; exact tdiv_inB hx) | (rename_i o; cases e; unfold over at o; unfold inB; simp at o; omega)
      have := evs_inB hn c (i + 1) (va_up val i v) u (fun j h1 h2 => hk j (by omega) (by omega)) (fun j h1 h2 => by
        unfold va_up
        split
        · exact hvB
        · exact hv j h1 (by omega)) he
      intro j h1 h2
      exact this j h1 (by omega)
theorem lawv_inB (hk : TOK T) {w : Nat} (hw : w < 8) (ht : T 127 w = 1) {nm : Nat → Int} (hn : ∀ k, k < 8 → inB (nm k)) {v : Int} (hv : lawv T nm w = some v) : inB v := by
  obtain ⟨lo, hi, e1, e2, h1, h2, h3⟩ := hk.kn hw ht
  unfold lawv at hv
  rw [e1, e2] at hv
  cases e : evs T nm ((hi : Int) - lo).toNat ((lo : Int)).toNat (fun _ => 0) with
  | none => rw [e] at hv; cases hv
  | some u =>
    rw [e] at hv
    cases hv
    rw [Int.toNat_natCast] at e
    exact evs_inB hn _ lo _ u (fun j h4 h5 => h3 j (by omega) (by omega)) (fun j _ _ => by unfold inB; omega) e _ (by omega) (by omega)
theorem c_within {g : JT} (hρ : Fx ρ) (hb : b = 5 ∨ b = 30) (hC : CT T b f) (hk : TOK T) (hP : TPF T) {w : Nat} (hw : w < 8) {nm : Nat → Int} (hn : ∀ k, k < 8 → g (b + 23) k = nm k ∧ inB (nm k)) {lo hi wo : Int} (r1 : ri lo) (r2 : ri hi) (r3 : ri wo) : C_X1_within [.ref (b + 17), .int (iz (w : Int)), .int (iz lo), .int (iz hi), .int (iz wo)] ρ f g (fun r ρ' f' g' => r = some (.int (iz (bl T nm w wo lo hi))) ∧ ρ' = ρ ∧ f' = f ∧ KGs b g g') := by
  have ht := (hk.law hw).1
  refine Ct.ofV (by decide) rfl (Nat.le_of_ble_eq_true rfl) ?_
  by_cases c : ∃ v, T 127 w = 1 ∧ lawv T nm w = some v
  · obtain ⟨v, t1, hv⟩ := c
    have hvB := lawv_inB hk hw t1 (fun k hk8 => (hn k hk8).2) hv
    have e : wthV T nm w = v := by unfold wthV; rw [if_pos t1, hv]; rfl
    have e2 : bl T nm w wo lo hi = if v < lo then lo else if hi < v then hi else v := by unfold bl; rw [if_neg (by omega), hv]
    rw [e2]
    have hcw := c_worth hρ hb hC hk hP hw hn
    rw [e] at hcw
    unfold inB at hvB
    unfold ri at r1 r2
    refine V_al0n dX1_within_0 ?_
    refine V_il1n dX1_within_1 ?_
    refine V_callV (as := [_]) ml_X1_58 im_X1_worth se_X1_worth (kb_17 hb) (by decide) (kl_17 hb) dX1_within_2 rfl rfl (by decide) (by decide) (Nat.le_of_ble_eq_true rfl) (by decide) (by decide) rfl (hcw) ?_
    rintro r2 ρ2 f2 g2 ⟨rfl, s2_0, s2_1, k2⟩
    obtain rfl := s2_0.symm
    obtain rfl := s2_1.symm
    refine V_ls5 dX1_within_5 (by decide) rfl ?_
    refine V_ll5 dX1_within_7 ?_
    refine V_ldc2_w (a := -9223372036854775808) kl_X1_48 rfl dX1_within_9 ?_
    refine V_lif_ne (tgt := 19) dX1_within_12 dX1_within_13 rfl (by unfold rl; omega) (by unfold rl; omega) (fun b13 => ?_) (fun b13 => ?_)
    · refine V_ll5 dX1_within_19 ?_
      refine V_il2n dX1_within_21 ?_
      refine V_i2l dX1_within_22 (by first | assumption | (unfold ri at *; omega)) ?_
      refine V_lif_ge (tgt := 31) dX1_within_23 dX1_within_24 rfl (by unfold rl; omega) (by unfold rl; omega) (fun b24 => ?_) (fun b24 => ?_)
      · refine V_ll5 dX1_within_31 ?_
        refine V_il3n dX1_within_33 ?_
        refine V_i2l dX1_within_34 (by first | assumption | (unfold ri at *; omega)) ?_
        refine V_lif_le (tgt := 43) dX1_within_35 dX1_within_36 rfl (by unfold rl; omega) (by unfold rl; omega) (fun b36 => ?_) (fun b36 => ?_)
        · refine V_ll5 dX1_within_43 ?_
          refine V_l2i dX1_within_45 ?_
          exact V_ireturn rfl ⟨by first | (rw [if_pos (by omega)]) | (rw [if_neg (by omega), if_pos (by omega)]) | (rw [if_neg (by omega), if_neg (by omega)]), rfl, rfl, k2⟩ dX1_within_46
        · refine V_il3n dX1_within_39 ?_
          refine V_goto (tgt := 46) dX1_within_40 rfl ?_
          exact V_ireturn rfl ⟨by first | (rw [if_pos (by omega)]) | (rw [if_neg (by omega), if_pos (by omega)]) | (rw [if_neg (by omega), if_neg (by omega)]), rfl, rfl, k2⟩ dX1_within_46
      · refine V_il2n dX1_within_27 ?_
        refine V_goto (tgt := 46) dX1_within_28 rfl ?_
        exact V_ireturn rfl ⟨by first | (rw [if_pos (by omega)]) | (rw [if_neg (by omega), if_pos (by omega)]) | (rw [if_neg (by omega), if_neg (by omega)]), rfl, rfl, k2⟩ dX1_within_46
    · exfalso; omega
  · have e : wthV T nm w = ERR := by
      unfold wthV
      split
      · rename_i t1
        cases hv : lawv T nm w with
        | none => rfl
        | some v => exact absurd ⟨v, t1, hv⟩ c
      · rfl
    have e2 : bl T nm w wo lo hi = wo := by
      unfold bl
      split
      · rfl
      · cases hv : lawv T nm w with
        | none => rfl
        | some v => exact absurd ⟨v, by omega, hv⟩ c
    clear c
    rw [e2]
    have hcw := c_worth hρ hb hC hk hP hw hn
    rw [e] at hcw
    unfold ERR at hcw
    refine V_al0n dX1_within_0 ?_
    refine V_il1n dX1_within_1 ?_
    refine V_callV (as := [_]) ml_X1_58 im_X1_worth se_X1_worth (kb_17 hb) (by decide) (kl_17 hb) dX1_within_2 rfl rfl (by decide) (by decide) (Nat.le_of_ble_eq_true rfl) (by decide) (by decide) rfl (hcw) ?_
    rintro r2 ρ2 f2 g2 ⟨rfl, s2_0, s2_1, k2⟩
    obtain rfl := s2_0.symm
    obtain rfl := s2_1.symm
    refine V_ls5 dX1_within_5 (by decide) rfl ?_
    refine V_ll5 dX1_within_7 ?_
    refine V_ldc2_w (a := -9223372036854775808) kl_X1_48 rfl dX1_within_9 ?_
    refine V_lif_ne (tgt := 19) dX1_within_12 dX1_within_13 rfl (by unfold rl; omega) (by unfold rl; omega) (fun b13 => ?_) (fun b13 => ?_)
    · exfalso; omega
    · refine V_il4 dX1_within_16 ?_
      exact V_ireturn rfl ⟨rfl, rfl, rfl, k2⟩ dX1_within_18
end WORTH

