/-! each line uses text up -/
theorem mu_up {f : IT} {a k : Nat} {x : Int} (h : ¬ (a = 104 ∧ 6 ≤ k ∧ k ≤ 8)) : mu (u2 f a k x) = mu f := mu_cg (u2_o (by omega)) (u2_o (by omega)) (u2_o (by omega))
theorem mu_num {f : IT} (h : PK f) {lo hi : Int} (hs : (numF lo hi f).1 = true) : mu (numF lo hi f).2 < mu f := by
  have n := numF_t hs
  rw [n.2.2.1]
  have := mu_tk (h.up (a := 104) (k := 11) (x := f 104 9) (by omega) (by omega) (by omega)) (by rw [u2_o (by omega)]; omega)
  rw [mu_up (by omega)] at this
  exact this
theorem mu_nn {f : IT} (h : PK f) {a o n : Nat} (ha : 107 ≤ a) (hs : (nnF a o n f).1 = true) : mu (nnF a o n f).2 < mu f := by
  have n := nnF_t hs
  rw [n.2.2]
  have := mu_tk (h.up (a := a) (k := o + (‹Nat›)) (x := f 104 9) (by omega) (by omega) (by omega)) (by rw [u2_o (by omega)]; omega)
  rw [mu_up (by omega)] at this
  exact this
theorem mu_kT {f : IT} (h : PK f) {k : Int} : mu (keyT k f) ≤ mu f := by
  unfold keyT
  split
  · rename_i e
    have := mu_tk h (by unfold keyB at e; simp at e; omega)
    omega
  · omega
theorem laneF_mu {f : IT} (h : Good f) (h8 : f 104 8 ≠ 0) (hs : (laneF f).1 = true) : mu (laneF f).2 < mu f := by
  unfold laneF at *
  split at hs
  · cases hs
  · rename_i e
    rw [if_neg e]
    generalize (f 104 20).toNat = n at *
    unfold laneN at *
    obtain ⟨s1, hs, e1⟩ := thn_s hs
    obtain ⟨s2, hs, e2⟩ := thn_s hs
    obtain ⟨s3, hs, e3⟩ := thn_s hs
    rw [e1, e2, e3]
    have m0 := mu_tk h.1 h8
    have m1 := mu_nn h.tk.1 (by omega) s1
    have g1 : Good (nnF 107 6 n (tkF f)).2 := h.tk.nn (by omega)
    generalize (nnF 107 6 n (tkF f)).2 = A at *
    have m2 := mu_num g1.1 s2
    have g2 : Good (numF 1 20 A).2 := g1.num
    generalize (numF 1 20 A).2 = B at *
    have g3 : Good (u2 B 108 (6 + n) (B 104 11)) := g2.up (by omega) (by omega) (by omega)
    have m3 := mu_num g3.1 s3
    rw [mu_up (by omega)] at m3
    have g4 := g3.num (lo := 0) (hi := 9)
    generalize (numF 0 9 (u2 B 108 (6 + n) (B 104 11))).2 = C at *
    simp only
    rw [mu_up (by omega)]
    have g5 : Good (u2 (u2 C 109 (6 + n) (C 104 11)) 110 (6 + n) (bz (keyB 8 C))) := (g4.up (by omega) (by omega) (by omega)).fg (by omega) (bz_01 _)
    have m5 := mu_kT g5.1 (k := 8)
    rw [mu_up (by omega), mu_up (by omega)] at m5
    have g6 := g5.kT (k := 8)
    generalize keyT 8 (u2 (u2 C 109 (6 + n) (C 104 11)) 110 (6 + n) (bz (keyB 8 C))) = D at *
    have g7 : Good (u2 D 111 (6 + n) (bz (keyB 9 D))) := g6.fg (by omega) (bz_01 _)
    have m7 := mu_kT g7.1 (k := 9)
    rw [mu_up (by omega)] at m7
    omega
theorem manF_mu {f : IT} (h : Good f) (h8 : f 104 8 ≠ 0) (hs : (manF f).1 = true) : mu (manF f).2 < mu f := by
  unfold manF at *
  split at hs
  · cases hs
  · rename_i e
    rw [if_neg e]
    generalize (f 104 21).toNat = n at *
    unfold manN at *
    obtain ⟨s1, hs, e1⟩ := thn_s hs
    obtain ⟨s2, hs, e2⟩ := thn_s hs
    obtain ⟨s3, hs, e3⟩ := thn_s hs
    obtain ⟨s4, hs, e4⟩ := thn_s hs
    rw [e1, e2, e3, e4]
    have m0 := mu_tk h.1 h8
    have m1 := mu_nn h.tk.1 (by omega) s1
    have g1 : Good (nnF 112 5 n (tkF f)).2 := h.tk.nn (by omega)
    generalize (nnF 112 5 n (tkF f)).2 = A at *
    have m2 := mu_num g1.1 s2
    have g2 : Good (numF 1 60 A).2 := g1.num
    generalize (numF 1 60 A).2 = B at *
    have h3 : Good (u2 B 113 (5 + n) (B 104 11)) := g2.up (by omega) (by omega) (by omega)
    have m3 := mu_num h3.1 s3
    rw [mu_up (by omega)] at m3
    have g3 : Good (numF 1 40 (u2 B 113 (5 + n) (B 104 11))).2 := h3.num
    generalize (numF 1 40 (u2 B 113 (5 + n) (B 104 11))).2 = C at *
    have h4 : Good (u2 C 114 (5 + n) (C 104 11)) := g3.up (by omega) (by omega) (by omega)
    have m4 := mu_num h4.1 s4
    rw [mu_up (by omega)] at m4
    have g4 : Good (numF 1 30 (u2 C 114 (5 + n) (C 104 11))).2 := h4.num
    generalize (numF 1 30 (u2 C 114 (5 + n) (C 104 11))).2 = D at *
    simp only
    rw [mu_up (by omega), mu_up (by omega)]
    omega
theorem holdF_mu {f : IT} (h : Good f) (h8 : f 104 8 ≠ 0) (hs : (holdF f).1 = true) : mu (holdF f).2 < mu f := by
  unfold holdF at *
  split at hs
  · cases hs
  · rename_i e
    rw [if_neg e]
    generalize (f 104 22).toNat = n at *
    unfold holdN at *
    obtain ⟨s1, hs, e1⟩ := thn_s hs
    obtain ⟨s2, hs, e2⟩ := thn_s hs
    obtain ⟨s3, hs, e3⟩ := thn_s hs
    obtain ⟨s4, hs, e4⟩ := thn_s hs
    rw [e1, e2, e3, e4]
    have m0 := mu_tk h.1 h8
    have m1 := mu_nn h.tk.1 (by omega) s1
    have g1 : Good (nnF 116 3 n (tkF f)).2 := h.tk.nn (by omega)
    generalize (nnF 116 3 n (tkF f)).2 = A at *
    have m2 := mu_num g1.1 s2
    have g2 : Good (numF 0 9 A).2 := g1.num
    generalize (numF 0 9 A).2 = B at *
    have h3 : Good (u2 B 117 (3 + n) (B 104 11)) := g2.up (by omega) (by omega) (by omega)
    have m3 := mu_num h3.1 s3
    rw [mu_up (by omega)] at m3
    have g3 : Good (numF 0 99 (u2 B 117 (3 + n) (B 104 11))).2 := h3.num
    generalize (numF 0 99 (u2 B 117 (3 + n) (B 104 11))).2 = C at *
    have h4 : Good (u2 C 118 (3 + n) (C 104 11)) := g3.up (by omega) (by omega) (by omega)
    have m4 := mu_num h4.1 s4
    rw [mu_up (by omega)] at m4
    have g4 : Good (numF 0 99 (u2 C 118 (3 + n) (C 104 11))).2 := h4.num
    generalize (numF 0 99 (u2 C 118 (3 + n) (C 104 11))).2 = D at *
    simp only
    rw [mu_up (by omega), mu_up (by omega)]
    omega
theorem judgF_mu {f : IT} (h : Good f) (h8 : f 104 8 ≠ 0) (hs : (judgF f).1 = true) : mu (judgF f).2 < mu f := by
  unfold judgF at *
  split at hs
  · cases hs
  · rename_i e
    rw [if_neg e]
    generalize (f 104 24).toNat = n at *
    unfold judgN at *
    obtain ⟨s1, hs, e1⟩ := thn_s hs
    obtain ⟨s2, hs, e2⟩ := thn_s hs
    obtain ⟨s3, hs, e3⟩ := thn_s hs
    rw [e1, e2, e3]
    have m0 := mu_tk h.1 h8
    have m1 := mu_nn h.tk.1 (by omega) s1
    have g1 : Good (nnF 124 4 n (tkF f)).2 := h.tk.nn (by omega)
    generalize (nnF 124 4 n (tkF f)).2 = A at *
    have m2 := mu_num g1.1 s2
    have g2 : Good (numF 0 100 A).2 := g1.num
    generalize (numF 0 100 A).2 = B at *
    have h3 : Good (u2 B 125 (4 + n) (B 104 11)) := g2.up (by omega) (by omega) (by omega)
    have m3 := mu_num h3.1 s3
    rw [mu_up (by omega)] at m3
    have g3 : Good (numF 0 100 (u2 B 125 (4 + n) (B 104 11))).2 := h3.num
    generalize (numF 0 100 (u2 B 125 (4 + n) (B 104 11))).2 = C at *
    simp only
    rw [mu_up (by omega), mu_up (by omega)]
    omega
theorem plnL_mu {n : Nat} : ∀ (k : Nat) (f : IT), PK f → (plnL n k f).1 = true → mu (plnL n k f).2 < mu f
  | 0, f, h, hs => by cases hs
  | k + 1, f, h, hs => by
    rw [plnL] at hs ⊢
    split at hs
    · cases hs
    · rename_i e
      rw [if_neg e]
      obtain ⟨s1, hs, e1⟩ := thn_s hs
      rw [e1]
      have m1 := mu_num h s1
      have g1 := h.num (lo := 1) (hi := 9)
      generalize (numF 1 9 f).2 = A at *
      have g2 : PK (u2 (u2 A 123 (6 * (5 + n) + (A 122 (5 + n)).toNat) (A 104 11)) 122 (5 + n) (A 122 (5 + n) + 1)) := (g1.up (by omega) (by omega) (by omega)).up (by omega) (by omega) (by omega)
      have m2 : mu (u2 (u2 A 123 (6 * (5 + n) + (A 122 (5 + n)).toNat) (A 104 11)) 122 (5 + n) (A 122 (5 + n) + 1)) = mu A := by rw [mu_up (by omega), mu_up (by omega)]
      split at hs
      · rename_i e8
        rw [if_pos e8]
        have := plnL_mu k _ g2 hs
        omega
      · rename_i e8
        rw [if_neg e8]
        simp only
        rw [mu_up (by omega)]
        omega
theorem planF_mu {f : IT} (h : Good f) (h8 : f 104 8 ≠ 0) (hs : (planF f).1 = true) : mu (planF f).2 < mu f := by
  unfold planF at *
  split at hs
  · cases hs
  · rename_i e
    rw [if_neg e]
    generalize (f 104 23).toNat = n at *
    unfold planN at *
    obtain ⟨s1, hs, e1⟩ := thn_s hs
    rw [e1]
    have m0 := mu_tk h.1 h8
    have m1 := mu_nn h.tk.1 (by omega) s1
    have g1 : Good (nnF 120 5 n (tkF f)).2 := h.tk.nn (by omega)
    generalize (nnF 120 5 n (tkF f)).2 = A at *
    split at hs
    · cases hs
    · rename_i e2
      rw [if_neg e2]
      split at hs
      · cases hs
      · rename_i e3
        rw [if_neg e3]
        have g2 : PK (u2 A 121 (5 + n) (fnd (A 116) 3 (A 104 22).toNat (A 104 9))) := g1.1.up (by omega) (by omega) (by omega)
        have m2 := mu_tk g2 (by rw [u2_o (by omega)]; omega)
        rw [mu_up (by omega)] at m2
        have m3 := plnL_mu 7 _ (g2.tk.up (by omega) (by omega) (by omega)) hs
        rw [mu_up (by omega)] at m3
        omega
theorem sumR_mu {lo : Nat} : ∀ (n : Nat) (f : IT), SI lo f → (sumR n f).1 = true → mu (sumR n f).2 ≤ mu f
  | 0, f, h, hs => by cases hs
  | n + 1, f, h, hs => by
    obtain ⟨hK, h62, h63, hj⟩ := h
    rw [sumR] at hs ⊢
    by_cases e : sgnB 59 f = true ∧ f 104 62 = 0 ∧ f 104 60 ≤ 0
    · rw [if_pos e]
      rw [e.2.1, if_neg (by omega)] at hj
      have hb := (bndF_ok (le := 1) (by omega) hj).2.1
      rw [show mu (true, bndF 1 f).2 = mu f from mu_cg (hb 104 6 (by omega) (by omega) (by omega)) (hb 104 7 (by omega) (by omega) (by omega)) (hb 104 8 (by omega) (by omega) (by omega))]
      omega
    · rw [if_neg e] at hs ⊢
      obtain ⟨s1, hs, e1⟩ := thn_s hs
      rw [e1]
      rcases h62 with q | q
      · rw [q, if_neg (by omega)] at hj s1 hs ⊢
        have hok := (sgnF_ok hK q h63 hj).2.2 s1
        have := sumR_mu n _ hok.2.1 hs
        omega
      · rw [q, if_pos rfl] at hj s1 hs ⊢
        have hok := (leafF_ok hK q h63 hj).2.2 s1
        have := sumR_mu n _ hok.2.1 hs
        omega
theorem lawF_mu {f : IT} (h : Good f) (hW : RRW f) (h8 : f 104 8 ≠ 0) (hs : (lawF f).1 = true) : mu (lawF f).2 < mu f := by
  obtain ⟨lo, h25, h61, h64⟩ := hW.le
  unfold lawF at *
  have m0 := mu_tk h.1 h8
  have g0 := h.tk
  have a25 : tkF f 104 25 = (lo : Int) := (tkF_o (by omega)).trans h25
  have a61 : tkF f 104 61 = (lo : Int) := (tkF_o (by omega)).trans h61
  generalize tkF f = A at *
  split at hs
  · cases hs
  · rename_i e
    rw [if_neg e]
    split at hs
    · cases hs
    · rename_i e2
      rw [if_neg e2]
      have hk8 : 8 ≤ (A 104 9 - 2).toNat := by omega
      generalize (A 104 9 - 2).toNat = k at *
      unfold lawK at *
      obtain ⟨s1, hs, e1⟩ := thn_s hs
      rw [e1]
      simp only
      rw [mu_up (by omega)]
      have g1 : Good (u2 A 127 k 1) := g0.fg (by omega) (by omega)
      have m1 := mu_tk g1.1 (by rw [u2_o (by omega)]; omega)
      rw [mu_up (by omega)] at m1
      have b25 : tkF (u2 A 127 k 1) 104 25 = (lo : Int) := by rw [tkF_o (by omega), u2_o (by omega)]; exact a25
      have b61 : tkF (u2 A 127 k 1) 104 61 = (lo : Int) := by rw [tkF_o (by omega), u2_o (by omega)]; exact a61
      have g2 := g1.tk
      generalize tkF (u2 A 127 k 1) = B at *
      have hsi := sumI_si (lo := lo) (f := u2 B 128 k (B 104 25)) (g2.1.up (by omega) (by omega) (by omega)) (by rw [u2_o (by omega)]; exact b25) (by rw [u2_o (by omega)]; exact b61) h64
      have m2 := sumR_mu (mu (u2 B 128 k (B 104 25)) + 1) _ hsi.1 s1
      rw [hsi.2.2, mu_up (by omega)] at m2
      unfold sumF at *
      rw [mu_up (by omega)] at *
      omega
theorem ln0_mu {f : IT} (h : Good f) (hW : RRW f) (h8 : f 104 8 ≠ 0) (hs : (ln0 f).1 = true) : mu (ln0 f).2 < mu f := by
  unfold ln0 at *
  split at hs
  · rename_i e; rw [if_pos e]; exact laneF_mu h h8 hs
  · rename_i e; rw [if_neg e]
    split at hs
    · rename_i e; rw [if_pos e]; exact manF_mu h h8 hs
    · rename_i e; rw [if_neg e]
      split at hs
      · rename_i e; rw [if_pos e]; exact holdF_mu h h8 hs
      · rename_i e; rw [if_neg e]
        split at hs
        · rename_i e; rw [if_pos e]; exact planF_mu h h8 hs
        · rename_i e; rw [if_neg e]
          split at hs
          · rename_i e; rw [if_pos e]; exact judgF_mu h h8 hs
          · rename_i e; rw [if_neg e]
            split at hs
            · rename_i e; rw [if_pos e]
              split at hs
              · cases hs
              · rename_i e; rw [if_neg e]
                unfold loadF at *
                simp only at hs ⊢
                rw [mu_up (by omega)]
                have hG : Good (u2 f 104 28 1) := h.cnt (Or.inr (Or.inr (Or.inr (Or.inr (Or.inr ⟨Or.inl rfl, Or.inr rfl⟩)))))
                have m1 := mu_tk hG.1 (by rw [u2_o (by omega)]; exact h8)
                rw [mu_up (by omega)] at m1
                have m2 := mu_num hG.tk.1 hs
                omega
            · rename_i e; rw [if_neg e]
              split at hs
              · rename_i e; rw [if_pos e]
                split at hs
                · cases hs
                · rename_i e; rw [if_neg e]
                  unfold seedF at *
                  simp only at hs ⊢
                  rw [mu_up (by omega)]
                  have hG : Good (u2 f 104 29 1) := h.cnt (Or.inr (Or.inr (Or.inr (Or.inr (Or.inr ⟨Or.inr rfl, Or.inr rfl⟩)))))
                  have m1 := mu_tk hG.1 (by rw [u2_o (by omega)]; exact h8)
                  rw [mu_up (by omega)] at m1
                  have m2 := mu_num hG.tk.1 hs
                  omega
              · rename_i e; rw [if_neg e]; exact lawF_mu h hW h8 hs
theorem lnF_mu {f : IT} (h : Good f) (H : RD f) (hs : (lnF f).1 = true) : f 104 8 ≠ 0 ∧ mu (lnF f).2 + 2 ≤ mu f := by
  unfold lnF at *
  split at hs
  · cases hs
  · rename_i e
    rw [if_neg e]
    obtain ⟨s1, hs, e1⟩ := thn_s hs
    rw [e1]
    have m1 := ln0_mu h H.2.2.2.2.2.1 (by omega) s1
    have g1 := (ln0_ok h H).1
    unfold lnE at *
    generalize (ln0 f).2 = A at *
    split at hs
    · rename_i e2
      rw [if_pos e2]
      have := mu_tk g1.1 (by unfold sgnB at e2; simp at e2; omega)
      simp only
      exact ⟨by omega, by omega⟩
    · cases hs

