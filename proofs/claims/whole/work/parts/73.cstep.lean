section STEP
variable {T : TT} {b w : Nat} {ρ : RT} {f : IT} {g : JT}
def takF (w v : Nat) (f : IT) : IT := fun a k => if a = w ∧ k < 14 then f v k else f a k
theorem c_take {v : Nat} (kw : kd w = (10, 0)) (kv : kd v = (10, 0)) (hwv : w ≠ v) (h0 : f v 0 = 0 ∨ f v 0 = 1) : C_X10_take [.ref w, .ref v] ρ f g (fun r ρ' f' g' => r = none ∧ ρ' = ρ ∧ f' = takF w v f ∧ g' = u2 g w 14 (g v 14)) := by
  refine Ct.ofV (by decide) rfl (Nat.le_of_ble_eq_true rfl) ?_
  refine V_al0n dX10_take_0 ?_
  refine V_al1n dX10_take_1 ?_
  refine V_getZ kv (kdlt kv (by decide)) fl_X10_9 rfl dX10_take_2 ?_
  refine V_putZ kw (kdlt kw (by decide)) fl_X10_9 rfl h0 dX10_take_5 ?_
  refine V_al0n dX10_take_8 ?_
  refine V_al1n dX10_take_9 ?_
  refine V_getI kv (kdlt kv (by decide)) fl_X10_15 (u2_n (by omega) rfl) dX10_take_10 ?_
  refine V_putI kw (kdlt kw (by decide)) fl_X10_15 rfl dX10_take_13 ?_
  refine V_al0n dX10_take_16 ?_
  refine V_al1n dX10_take_17 ?_
  refine V_getI kv (kdlt kv (by decide)) fl_X10_19 (u2_n (by omega) (u2_n (by omega) rfl)) dX10_take_18 ?_
  refine V_putI kw (kdlt kw (by decide)) fl_X10_19 rfl dX10_take_21 ?_
  refine V_al0n dX10_take_24 ?_
  refine V_al1n dX10_take_25 ?_
  refine V_getI kv (kdlt kv (by decide)) fl_X10_22 (u2_n (by omega) (u2_n (by omega) (u2_n (by omega) rfl))) dX10_take_26 ?_
  refine V_putI kw (kdlt kw (by decide)) fl_X10_22 rfl dX10_take_29 ?_
  refine V_al0n dX10_take_32 ?_
  refine V_al1n dX10_take_33 ?_
  refine V_getI kv (kdlt kv (by decide)) fl_X10_25 (u2_n (by omega) (u2_n (by omega) (u2_n (by omega) (u2_n (by omega) rfl)))) dX10_take_34 ?_
  refine V_putI kw (kdlt kw (by decide)) fl_X10_25 rfl dX10_take_37 ?_
  refine V_al0n dX10_take_40 ?_
  refine V_al1n dX10_take_41 ?_
  refine V_getI kv (kdlt kv (by decide)) fl_X10_28 (u2_n (by omega) (u2_n (by omega) (u2_n (by omega) (u2_n (by omega) (u2_n (by omega) rfl))))) dX10_take_42 ?_
  refine V_putI kw (kdlt kw (by decide)) fl_X10_28 rfl dX10_take_45 ?_
  refine V_al0n dX10_take_48 ?_
  refine V_al1n dX10_take_49 ?_
  refine V_getI kv (kdlt kv (by decide)) fl_X10_31 (u2_n (by omega) (u2_n (by omega) (u2_n (by omega) (u2_n (by omega) (u2_n (by omega) (u2_n (by omega) rfl)))))) dX10_take_50 ?_
  refine V_putI kw (kdlt kw (by decide)) fl_X10_31 rfl dX10_take_53 ?_
  refine V_al0n dX10_take_56 ?_
  refine V_al1n dX10_take_57 ?_
  refine V_getI kv (kdlt kv (by decide)) fl_X10_34 (u2_n (by omega) (u2_n (by omega) (u2_n (by omega) (u2_n (by omega) (u2_n (by omega) (u2_n (by omega) (u2_n (by omega) rfl))))))) dX10_take_58 ?_
  refine V_putI kw (kdlt kw (by decide)) fl_X10_34 rfl dX10_take_61 ?_
  refine V_al0n dX10_take_64 ?_
  refine V_al1n dX10_take_65 ?_
  refine V_getI kv (kdlt kv (by decide)) fl_X10_37 (u2_n (by omega) (u2_n (by omega) (u2_n (by omega) (u2_n (by omega) (u2_n (by omega) (u2_n (by omega) (u2_n (by omega) (u2_n (by omega) rfl)))))))) dX10_take_66 ?_
  refine V_putI kw (kdlt kw (by decide)) fl_X10_37 rfl dX10_take_69 ?_
  refine V_al0n dX10_take_72 ?_
  refine V_al1n dX10_take_73 ?_
  refine V_getI kv (kdlt kv (by decide)) fl_X10_40 (u2_n (by omega) (u2_n (by omega) (u2_n (by omega) (u2_n (by omega) (u2_n (by omega) (u2_n (by omega) (u2_n (by omega) (u2_n (by omega) (u2_n (by omega) rfl))))))))) dX10_take_74 ?_
  refine V_putI kw (kdlt kw (by decide)) fl_X10_40 rfl dX10_take_77 ?_
  refine V_al0n dX10_take_80 ?_
  refine V_al1n dX10_take_81 ?_
  refine V_getI kv (kdlt kv (by decide)) fl_X10_43 (u2_n (by omega) (u2_n (by omega) (u2_n (by omega) (u2_n (by omega) (u2_n (by omega) (u2_n (by omega) (u2_n (by omega) (u2_n (by omega) (u2_n (by omega) (u2_n (by omega) rfl)))))))))) dX10_take_82 ?_
  refine V_putI kw (kdlt kw (by decide)) fl_X10_43 rfl dX10_take_85 ?_
  refine V_al0n dX10_take_88 ?_
  refine V_al1n dX10_take_89 ?_
  refine V_getI kv (kdlt kv (by decide)) fl_X10_46 (u2_n (by omega) (u2_n (by omega) (u2_n (by omega) (u2_n (by omega) (u2_n (by omega) (u2_n (by omega) (u2_n (by omega) (u2_n (by omega) (u2_n (by omega) (u2_n (by omega) (u2_n (by omega) rfl))))))))))) dX10_take_90 ?_
  refine V_putI kw (kdlt kw (by decide)) fl_X10_46 rfl dX10_take_93 ?_
  refine V_al0n dX10_take_96 ?_
  refine V_al1n dX10_take_97 ?_
  refine V_getI kv (kdlt kv (by decide)) fl_X10_49 (u2_n (by omega) (u2_n (by omega) (u2_n (by omega) (u2_n (by omega) (u2_n (by omega) (u2_n (by omega) (u2_n (by omega) (u2_n (by omega) (u2_n (by omega) (u2_n (by omega) (u2_n (by omega) (u2_n (by omega) rfl)))))))))))) dX10_take_98 ?_
  refine V_putI kw (kdlt kw (by decide)) fl_X10_49 rfl dX10_take_101 ?_
  refine V_al0n dX10_take_104 ?_
  refine V_al1n dX10_take_105 ?_
  refine V_getI kv (kdlt kv (by decide)) fl_X10_52 (u2_n (by omega) (u2_n (by omega) (u2_n (by omega) (u2_n (by omega) (u2_n (by omega) (u2_n (by omega) (u2_n (by omega) (u2_n (by omega) (u2_n (by omega) (u2_n (by omega) (u2_n (by omega) (u2_n (by omega) (u2_n (by omega) rfl))))))))))))) dX10_take_106 ?_
  refine V_putI kw (kdlt kw (by decide)) fl_X10_52 rfl dX10_take_109 ?_
  refine V_al0n dX10_take_112 ?_
  refine V_al1n dX10_take_113 ?_
  refine V_getJ kv (kdlt kv (by decide)) fl_X10_55 rfl dX10_take_114 ?_
  refine V_putJ kw (kdlt kw (by decide)) fl_X10_55 rfl dX10_take_117 ?_
  exact V_return rfl ⟨rfl, rfl, by
  funext a k
  unfold takF
  by_cases e : a = w ∧ k < 14
  · rw [if_pos e]
    obtain ⟨rfl, hk⟩ := e
    rcases (show k = 0 ∨ k = 1 ∨ k = 2 ∨ k = 3 ∨ k = 4 ∨ k = 5 ∨ k = 6 ∨ k = 7 ∨ k = 8 ∨ k = 9 ∨ k = 10 ∨ k = 11 ∨ k = 12 ∨ k = 13 by omega) with rfl | rfl | rfl | rfl | rfl | rfl | rfl | rfl | rfl | rfl | rfl | rfl | rfl | rfl <;> simp [u2]
  · rw [if_neg e]
    (repeat rw [u2_o (by omega)]), rfl⟩ dX10_take_120
def slF (T : TT) (w : Nat) (d dm : Int) (f : IT) : IT := if nxt d / 65536 % 100 < tat T 2 (f w 3) 1 + 10 * dm then u2 (u2 f w 11 (f w 11 + 1)) w 9 (f w 9 + tat T 2 (f w 3) 2) else f
theorem c_slip (hρ : Fx ρ) (hb : b = 5 ∨ b = 30) (hC : CT T b f) (hk : TOK T) (kw : kd w = (10, 0)) (hw : 62 ≤ w) {d dm : Int} (hd : g w 14 = d) (hdm : 0 ≤ dm ∧ dm ≤ 1) (r3 : ri (f w 3)) : C_X10_slip [.ref w, .ref b, .int (iz dm)] ρ f g (fun r ρ' f' g' => r = none ∧ ρ' = ρ ∧ f' = slF T w d dm f ∧ g' = u2 g w 14 (nxt d)) := by
  have hn := nxt_rng d
  have t1 := tat_ri hk (i := 2) (by omega) (k := f w 3) (j := 1)
  have e5 : nxt d / 65536 = nxt d / 2 ^ 16 := rfl
  refine Ct.ofV (by decide) rfl (Nat.le_of_ble_eq_true rfl) ?_
  unfold slF
  refine V_al0n dX10_slip_0 ?_
  refine V_al0n dX10_slip_1 ?_
  refine V_getJ kw (kdlt kw (by decide)) fl_X10_55 hd dX10_slip_2 ?_
  refine V_ldc2_w (a := 1103515245) kl_X10_100 rfl dX10_slip_5 ?_
  refine V_lmul dX10_slip_8 ?_
  refine V_ldc2_w (a := 12345) kl_X10_102 rfl dX10_slip_9 ?_
  refine V_ladd dX10_slip_12 ?_
  refine V_ldc2_w (a := 2147483647) kl_X10_104 rfl dX10_slip_13 ?_
  refine V_land dX10_slip_16 (lz_and31 _) ?_
  refine V_putJ kw (kdlt kw (by decide)) fl_X10_55 rfl dX10_slip_17 ?_
  refine V_al0n dX10_slip_20 ?_
  refine V_getJ kw (kdlt kw (by decide)) fl_X10_55 u2_s dX10_slip_21 ?_
  refine V_bipush dX10_slip_24 rfl ?_
  refine V_lshr dX10_slip_26 (lz_shrE (b := 16) (v := nxt d / 65536) (by unfold rl; show _ ∧ _; unfold nxt at hn; omega) rfl (by omega) rfl) ?_
  refine V_ldc2_w (a := 100) kl_X10_106 rfl dX10_slip_27 ?_
  refine V_lrem dX10_slip_30 (lz_ne (by unfold rl; omega) (by omega)) (lz_rem (by omega) (by omega) (by unfold rl; omega) (by unfold rl; omega)) ?_
  refine V_ls3n dX10_slip_31 (by decide) rfl ?_
  refine V_ll3n dX10_slip_32 ?_
  refine V_al1n dX10_slip_33 ?_
  refine V_iconst dX10_slip_34 ?_
  refine V_al0n dX10_slip_35 ?_
  refine V_getI kw (kdlt kw (by decide)) fl_X10_22 rfl dX10_slip_36 ?_
  refine V_iconst dX10_slip_39 ?_
  refine V_callV (as := [_, _, _]) ml_X10_59 im_X7_at se_X7_at (kb_0 hb) (by decide) (kl_0 hb) dX10_slip_40 rfl rfl (by decide) (by decide) (Nat.le_of_ble_eq_true rfl) (by decide) (by decide) rfl (c_at hρ hb hC hk (i := 2) (by omega) r3 (by unfold ri; omega)) ?_
  refine pq4 ?_
  refine V_bipush dX10_slip_43 rfl ?_
  refine V_il2n dX10_slip_45 ?_
  refine V_imul dX10_slip_46 ?_
  refine V_iadd dX10_slip_47 ?_
  refine V_i2l dX10_slip_48 (by unfold ri; omega) ?_
  refine V_lif_ge (tgt := 82) dX10_slip_49 dX10_slip_50 rfl (by unfold rl; omega) (by unfold rl; omega) (fun b50 => ?_) (fun b50 => ?_)
  · exact V_return rfl ⟨rfl, rfl, by first | (rw [if_pos (by omega)]; done) | (rw [if_neg (by omega)]; done) | (rw [if_pos (by omega)]; rfl) | (rw [if_neg (by omega)]; rfl), rfl⟩ dX10_slip_82
  · refine V_al0n dX10_slip_53 ?_
    refine V_dup dX10_slip_54 rfl ?_
    refine V_getI kw (kdlt kw (by decide)) fl_X10_46 rfl dX10_slip_55 ?_
    refine V_iconst dX10_slip_58 ?_
    refine V_iadd dX10_slip_59 ?_
    refine V_putI kw (kdlt kw (by decide)) fl_X10_46 rfl dX10_slip_60 ?_
    refine V_al0n dX10_slip_63 ?_
    refine V_dup dX10_slip_64 rfl ?_
    refine V_getI kw (kdlt kw (by decide)) fl_X10_40 (u2_n (by omega) rfl) dX10_slip_65 ?_
    refine V_al1n dX10_slip_68 ?_
    refine V_iconst dX10_slip_69 ?_
    refine V_al0n dX10_slip_70 ?_
    refine V_getI kw (kdlt kw (by decide)) fl_X10_22 (u2_n (by omega) rfl) dX10_slip_71 ?_
    refine V_iconst dX10_slip_74 ?_
    refine V_callV (as := [_, _, _]) ml_X10_59 im_X7_at se_X7_at (kb_0 hb) (by decide) (kl_0 hb) dX10_slip_75 rfl rfl (by decide) (by decide) (Nat.le_of_ble_eq_true rfl) (by decide) (by decide) rfl (c_at hρ hb (hC.cg hb (fun a k h1 h2 => u2_o (by omega))) hk (i := 2) (by omega) r3 (by unfold ri; omega)) ?_
    refine pq4 ?_
    refine V_iadd dX10_slip_78 ?_
    refine V_putI kw (kdlt kw (by decide)) fl_X10_40 rfl dX10_slip_79 ?_
    exact V_return rfl ⟨rfl, rfl, by first | (rw [if_pos (by omega)]; done) | (rw [if_neg (by omega)]; done) | (rw [if_pos (by omega)]; rfl) | (rw [if_neg (by omega)]; rfl), rfl⟩ dX10_slip_82
/-- where in the lane one is -/
def PO (T : TT) (d : Int) (k : Nat) (v : Int) : Prop := d = sumTo (T 108) k + v ∧ ((k < nLa T ∧ 0 ≤ v ∧ v < T 108 k) ∨ (k = nLa T ∧ v = 0))
theorem latR_po (hk : TOK T) : ∀ (n k0 k : Nat) (v left : Int), k0 + n = nLa T → k0 ≤ k → left = sumTo (T 108) k - sumTo (T 108) k0 + v → ((k < nLa T ∧ 0 ≤ v ∧ v < T 108 k) ∨ (k = nLa T ∧ v = 0)) → latR T n k0 left = k
  | 0, k0, k, v, left, h1, h2, h3, h4 => by simp only [latR]; omega
  | n + 1, k0, k, v, left, h1, h2, h3, h4 => by
    simp only [latR]
    have hp := hk.lane (k := k0) (by omega)
    have mono : ∀ j, k0 + 1 + j ≤ nLa T → sumTo (T 108) k0 + T 108 k0 ≤ sumTo (T 108) (k0 + 1 + j) := fun j => by
      induction j with
      | zero => intro _; simp [sumTo]
      | succ j ih =>
        intro hj
        have := ih (by omega)
        have h5 := hk.lane (k := k0 + 1 + j) (by omega)
        have e : sumTo (T 108) (k0 + 1 + (j + 1)) = sumTo (T 108) (k0 + 1 + j) + T 108 (k0 + 1 + j) := rfl
        omega
    by_cases e : k = k0
    · subst e
      rw [if_neg (by omega)]
    · have := mono (k - k0 - 1) (by omega)
      rw [show k0 + 1 + (k - k0 - 1) = k by omega] at this
      rw [if_pos (by omega)]
      have e2 : sumTo (T 108) (k0 + 1) = sumTo (T 108) k0 + T 108 k0 := rfl
      exact latR_po hk n (k0 + 1) k v _ (by omega) (by omega) (by omega) h4
theorem PO.lat (hk : TOK T) {d v : Int} {k : Nat} (h : PO T d k v) : lat T d = k := latR_po hk (nLa T) 0 k v d (by omega) (by omega) (by have := h.1; simp only [sumTo]; omega) h.2
theorem PO.nx (hk : TOK T) {d v : Int} {k : Nat} (h : PO T d k v) (hl : k < nLa T) : PO T (d + 1) (if T 108 k ≤ v + 1 then k + 1 else k) (if T 108 k ≤ v + 1 then 0 else v + 1) := by
  obtain ⟨h1, h2⟩ := h
  have hp := hk.lane hl
  split
  · refine ⟨?_, ?_⟩
    · have e : sumTo (T 108) (k + 1) = sumTo (T 108) k + T 108 k := rfl
      omega
    · by_cases e : k + 1 = nLa T
      · right; exact ⟨e, rfl⟩
      · left
        have := hk.lane (k := k + 1) (by omega)
        omega
  · exact ⟨by omega, Or.inl (by omega)⟩
theorem PO.go (hk : TOK T) {d v : Int} {k : Nat} (h : PO T d k v) : (k < nLa T ↔ d < allS T) ∧ 0 ≤ d ∧ k ≤ nLa T := by
  obtain ⟨h1, h2⟩ := h
  have nn : ∀ j, j ≤ nLa T → 0 ≤ sumTo (T 108) j := fun j hj => (sumTo_rng (B := 20) (by omega) j (fun i hi => by have := hk.lane (k := i) (by omega); omega)).1
  have mono : ∀ j, k + j ≤ nLa T → sumTo (T 108) k ≤ sumTo (T 108) (k + j) := fun j => by
    induction j with
    | zero => intro _; simp
    | succ j ih =>
      intro hj
      have := ih (by omega)
      have h5 := hk.lane (k := k + j) (by omega)
      have e : sumTo (T 108) (k + (j + 1)) = sumTo (T 108) (k + j) + T 108 (k + j) := rfl
      omega
  have := nn k (by omega)
  refine ⟨⟨fun hl => ?_, fun hd => ?_⟩, by omega, by omega⟩
  · have := mono (nLa T - k) (by omega)
    have h3 : sumTo (T 108) (k + 1) = sumTo (T 108) k + T 108 k := rfl
    have m2 : sumTo (T 108) (k + 1) ≤ allS T := by
      have mono2 : ∀ j, k + 1 + j ≤ nLa T → sumTo (T 108) (k + 1) ≤ sumTo (T 108) (k + 1 + j) := fun j => by
        induction j with
        | zero => intro _; simp
        | succ j ih =>
          intro hj
          have := ih (by omega)
          have h5 := hk.lane (k := k + 1 + j) (by omega)
          have e : sumTo (T 108) (k + 1 + (j + 1)) = sumTo (T 108) (k + 1 + j) + T 108 (k + 1 + j) := rfl
          omega
      have := mono2 (nLa T - (k + 1)) (by omega)
      rw [show k + 1 + (nLa T - (k + 1)) = nLa T by omega] at this
      exact this
    omega
  · rcases h2 with h2 | h2
    · exact h2.1
    · rw [h2.1] at h1
      unfold allS at hd
      omega
theorem goP_goP {wi pa : Int} : goP wi (goP wi pa) = goP wi pa := by unfold goP; split <;> simp_all
theorem one_gp {c : CC} {k : Nat} {hc pa : Int} {s : SS} : one T c k hc (goP s.2.1 pa) s = one T c k hc pa s := by
  unfold one sWi sLe sTi sCo sAc
  rw [goP_goP]
end STEP

