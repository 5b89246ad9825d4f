/-! what reading leaves alone; what was read, as a told text -/
section CFRAME
variable {φ : IT}
def PX (a k : Nat) : Prop := (a = 104 ∧ (k = 4 ∨ k = 5 ∨ 7 ≤ k ∧ k ≤ 11 ∨ 20 ≤ k ∧ k ≤ 29 ∨ 58 ≤ k ∧ k ≤ 63)) ∨ (107 ≤ a ∧ a ≤ 111 ∧ 6 ≤ k) ∨ (112 ≤ a ∧ a ≤ 115 ∧ 5 ≤ k) ∨ (116 ≤ a ∧ a ≤ 119 ∧ 3 ≤ k) ∨ (120 ≤ a ∧ a ≤ 122 ∧ 5 ≤ k) ∨ (a = 123 ∧ 30 ≤ k) ∨ (124 ≤ a ∧ a ≤ 126 ∧ 4 ≤ k) ∨ (127 ≤ a ∧ a ≤ 129 ∧ 8 ≤ k) ∨ (130 ≤ a ∧ a ≤ 132 ∧ 64 ≤ k) ∨ a = 133 ∨ a = 134
theorem lnF_fr (hG : Good φ) (hD : RD φ) {a k : Nat} (h : ¬ PX a k) : (lnF φ).2 a k = φ a k := by
  unfold PX at h
  unfold lnF
  split
  · show wrg 1 φ a k = _
    unfold wrg
    rw [u2_o (by omega), u2_o (by omega)]
  · unfold ln0
    split
    · exact thnE_o (laneF_ok hG).2.1 (by omega) (by unfold PL; omega)
    · split
      · exact thnE_o (manF_ok hG).2.1 (by omega) (by unfold Pman; omega)
      · split
        · exact thnE_o (holdF_ok hG).2.1 (by omega) (by unfold Phold; omega)
        · split
          · exact thnE_o (planF_ok hG).2.1 (by omega) (by unfold PP; omega)
          · split
            · exact thnE_o (judgF_ok hG).2.1 (by omega) (by unfold Pjudge; omega)
            · split
              · exact lone_o (φ := φ) (s := 28) (v := 26) (hi := 30) (by omega)
              · split
                · exact lone_o (φ := φ) (s := 29) (v := 27) (hi := 99999) (by omega)
                · exact thnE_o (lawF_ok hG hD.2.2.2.2.2.1).2.1 (by omega) (by unfold PW; omega)
theorem lnsR_fr : ∀ (n l : Nat) (φ : IT), Good φ → RD φ → Good (lnsR n l φ).2 ∧ ∀ a k, ¬ PX a k → (lnsR n l φ).2 a k = φ a k
  | 0, _, _, h, _ => ⟨h, fun _ _ _ => rfl⟩
  | n + 1, l, φ, h, H => by
    rw [lnsR]
    split
    · exact ⟨h, fun _ _ _ => rfl⟩
    · split
      · rename_i e
        have ok := lnF_ok h H
        have ih := lnsR_fr n (l + 1) (lnF φ).2 ok.1 (ok.2 e)
        exact ⟨ih.1, fun a k z => (ih.2 a k z).trans (lnF_fr h H z)⟩
      · exact ⟨(lnF_ok h H).1, fun a k z => lnF_fr h H z⟩
theorem tx0_fr {n : Int} {a k : Nat} (h : ¬ PX a k) (h2 : ¬ (a = 104 ∧ (k = 1 ∨ k = 2 ∨ k = 6))) : tx0 n φ a k = φ a k := by
  unfold PX at h
  unfold tx0 plnF clL
  rw [tkF_o (by omega), if_neg (by omega), u2_o (by omega), u2_o (by omega), u2_o (by omega), u2_o (by omega), u2_o (by omega), u2_o (by omega), u2_o (by omega), u2_o (by omega), u2_o (by omega), u2_o (by omega), u2_o (by omega), u2_o (by omega), u2_o (by omega), u2_o (by omega), u2_o (by omega), u2_o (by omega), u2_o (by omega)]
theorem tx0_1 {n : Int} : tx0 n φ 104 1 = 0 := by
  unfold tx0 plnF clL
  rw [tkF_o (by omega), if_neg (by omega), u2_o (by omega), u2_o (by omega), u2_o (by omega), u2_o (by omega), u2_o (by omega), u2_o (by omega), u2_o (by omega), u2_o (by omega), u2_o (by omega), u2_o (by omega), u2_o (by omega), u2_o (by omega), u2_o (by omega), u2_o (by omega), u2_s]
theorem txR_fr {n : Int} (hK : TxK φ) (hn : 0 ≤ n ∧ n ≤ φ 104 1) : Good (txR n φ).2 ∧ (txR n φ).2 104 1 = 0 ∧ ∀ a k, ¬ PX a k → ¬ (a = 104 ∧ (k = 1 ∨ k = 2 ∨ k = 6)) → (txR n φ).2 a k = φ a k := by
  have hok := tx00_ok hK hn
  have h := lnsR_fr (mu (tx0 n φ) + 1) 0 (tx0 n φ) hok.1.tk hok.2.tk
  exact ⟨h.1, (h.2 104 1 (by unfold PX; omega)).trans tx0_1, fun a k z1 z2 => (h.2 a k z1).trans (tx0_fr z1 z2)⟩
theorem stV_r {K P O : Nat → Int} {lo : Nat} : ∀ n, stV K P O lo n → ∀ i : Nat, lo ≤ i → i < lo + n → (0 ≤ K i ∧ K i ≤ 14) ∧ (K i = 0 → 0 ≤ P i ∧ P i ≤ 9999) ∧ (K i = 1 → 0 ≤ P i ∧ P i ≤ 7) ∧ (2 ≤ K i → (lo : Int) ≤ P i ∧ P i < (i : Int)) ∧ (3 ≤ K i → (lo : Int) ≤ O i ∧ O i < (i : Int))
  | 0, _, i, h1, h2 => by omega
  | n + 1, h, i, h1, h2 => by
    by_cases e : i = lo + n
    · subst e
      obtain ⟨-, s1, s2, s3, s4, s5⟩ := h
      refine ⟨s1, s2, s3, fun z => ?_, fun z => ?_⟩
      · by_cases y : K (lo + n) = 2
        · obtain ⟨a, s, q1, q2⟩ := s4 y
          have := pst_mem (K := K) (lo := lo) n a (by rw [q1]; simp)
          rw [q2]; omega
        · obtain ⟨c, a, s, q1, q2, q3⟩ := s5 (by omega)
          have := pst_mem (K := K) (lo := lo) n a (by rw [q1]; simp)
          rw [q2]; omega
      · obtain ⟨c, a, s, q1, q2, q3⟩ := s5 z
        have := pst_mem (K := K) (lo := lo) n c (by rw [q1]; simp)
        rw [q3]; omega
    · exact stV_r n h.1 i h1 (by omega)
theorem rdT_ok (hG : Good φ) (hD : RD φ) : TOK (rdT φ) ∧ TPF (rdT φ) ∧ NMK (rdT φ) := by
  obtain ⟨d1, d2, d3, d4, d5, d6, d7, d8⟩ := hD
  obtain ⟨-, r1, r2, c1, c2, c3, c4, c5, -⟩ := hG
  have hW : TPF (rdT φ) := fun w hw ht => d6.2.2 w hw ht
  refine ⟨⟨c1, c2, c3, c4, c5, d6.1, d7, d8, fun k hk => ⟨(d1 k hk).1, (d1 k hk).2, (r2 (6 + k)).1, (r2 (6 + k)).2.1⟩, fun k hk => d2 k hk, fun k hk => d3 k hk, fun k hk => ⟨(d4 k hk).1, (d4 k hk).2.1, fun j hj => ?_⟩, fun k hk => d5 k hk, fun w hw => ⟨(r2 (8 + w)).2.2, fun ht => ?_⟩⟩, hW, fun k => ⟨(r1 (6 + k)).1, (r1 (5 + k)).2.1, (r1 (3 + k)).2.2.1, (r1 (5 + k)).2.2.2.1, (r1 (4 + k)).2.2.2.2⟩⟩
  · have := (d4 k hk).2.2 j hj
    show 1 ≤ φ 123 (30 + (6 * k + j)) ∧ φ 123 (30 + (6 * k + j)) ≤ 9
    rw [show 30 + (6 * k + j) = 6 * (5 + k) + j by omega]
    exact this
  · obtain ⟨lo, n, e1, e2, e3, e4, e5, e6⟩ := hW w hw ht
    have q := stV_r n e5
    have d64 := d6.1
    have e4' : (lo : Int) + n ≤ φ 104 25 := e4
    rw [e1, e2]
    refine ⟨by omega, by omega, by omega, fun i h1 h2 => ?_⟩
    exact q i (by omega) (by omega)
/-- what was read is kept as the told text -/
theorem kpF_mt : MT (rdT φ) (kpF φ) := fun a k ht => by
  unfold tx at ht
  simp only [Bool.or_eq_true, Bool.and_eq_true, decide_eq_true_eq] at ht
  rcases ht with ⟨⟨rfl, h1⟩, h2⟩ | ht
  · unfold kpF rdT
    rw [if_pos rfl, u2_o (by omega), u2_o (by omega), u2_o (by omega), u2_o (by omega), u2_o (by omega), u2_o (by omega), u2_o (by omega), kpN_4]
    unfold kp8
    rcases (show k = 12 ∨ k = 13 ∨ k = 14 ∨ k = 15 ∨ k = 16 ∨ k = 17 ∨ k = 18 ∨ k = 19 by omega) with rfl | rfl | rfl | rfl | rfl | rfl | rfl | rfl
    · rw [u2_o (by omega), u2_o (by omega), u2_o (by omega), u2_o (by omega), u2_o (by omega), u2_o (by omega), u2_o (by omega), u2_s]
    · rw [u2_o (by omega), u2_o (by omega), u2_o (by omega), u2_o (by omega), u2_o (by omega), u2_o (by omega), u2_s]
    · rw [u2_o (by omega), u2_o (by omega), u2_o (by omega), u2_o (by omega), u2_o (by omega), u2_s]
    · rw [u2_o (by omega), u2_o (by omega), u2_o (by omega), u2_o (by omega), u2_s]
    · rw [u2_o (by omega), u2_o (by omega), u2_o (by omega), u2_s]
    · rw [u2_o (by omega), u2_o (by omega), u2_s]
    · rw [u2_o (by omega), u2_s]
    · rw [u2_s]
  · have hr : 107 ≤ a ∧ a ≤ 132 := by
      unfold half at ht
      (repeat' split at ht) <;> omega
    unfold kpF rdT
    rw [if_neg (by omega), u2_o (by omega), u2_o (by omega), u2_o (by omega), u2_o (by omega), u2_o (by omega), u2_o (by omega), u2_o (by omega)]
    unfold kpN
    rw [if_pos (by omega)]
    unfold kp8
    rw [u2_o (by omega), u2_o (by omega), u2_o (by omega), u2_o (by omega), u2_o (by omega), u2_o (by omega), u2_o (by omega), u2_o (by omega)]
theorem kpF_o {a k : Nat} (h : ¬ (a = 104 ∧ (12 ≤ k ∧ k ≤ 19 ∨ k = 67 ∨ k = 68 ∨ k = 78 ∨ k = 82 ∨ k = 90 ∨ k = 91 ∨ k = 97))) (h2 : ¬ (107 ≤ a ∧ a ≤ 132)) : kpF φ a k = φ a k := by
  unfold kpF
  rw [u2_o (by omega), u2_o (by omega), u2_o (by omega), u2_o (by omega), u2_o (by omega), u2_o (by omega), u2_o (by omega)]
  unfold kpN
  rw [if_neg (by omega)]
  unfold kp8
  rw [u2_o (by omega), u2_o (by omega), u2_o (by omega), u2_o (by omega), u2_o (by omega), u2_o (by omega), u2_o (by omega), u2_o (by omega)]
theorem kpF_r {a k : Nat} (h2 : 107 ≤ a ∧ a ≤ 132) : kpF φ a k = if k < half a then φ a (half a + k) else φ a k := by
  unfold kpF
  rw [u2_o (by omega), u2_o (by omega), u2_o (by omega), u2_o (by omega), u2_o (by omega), u2_o (by omega), u2_o (by omega)]
  unfold kpN
  by_cases z : k < half a
  · rw [if_pos (by omega), if_pos z]
    unfold kp8
    rw [u2_o (by omega), u2_o (by omega), u2_o (by omega), u2_o (by omega), u2_o (by omega), u2_o (by omega), u2_o (by omega), u2_o (by omega)]
  · rw [if_neg (by omega), if_neg z]
    unfold kp8
    rw [u2_o (by omega), u2_o (by omega), u2_o (by omega), u2_o (by omega), u2_o (by omega), u2_o (by omega), u2_o (by omega), u2_o (by omega)]
theorem kpF_v : kpF φ 104 67 = φ 104 26 ∧ kpF φ 104 68 = 0 ∧ kpF φ 104 78 = 0 ∧ kpF φ 104 82 = 0 ∧ kpF φ 104 90 = 0 ∧ kpF φ 104 91 = -1 ∧ kpF φ 104 97 = 0 := by
  unfold kpF
  refine ⟨?_, ?_, ?_, ?_, ?_, ?_, ?_⟩
  · rw [u2_o (by omega), u2_o (by omega), u2_o (by omega), u2_o (by omega), u2_o (by omega), u2_o (by omega), u2_s]
  · rw [u2_o (by omega), u2_o (by omega), u2_o (by omega), u2_o (by omega), u2_o (by omega), u2_s]
  · rw [u2_o (by omega), u2_o (by omega), u2_o (by omega), u2_o (by omega), u2_s]
  · rw [u2_o (by omega), u2_o (by omega), u2_o (by omega), u2_s]
  · rw [u2_o (by omega), u2_o (by omega), u2_s]
  · rw [u2_o (by omega), u2_s]
  · rw [u2_s]
theorem Good.txk (hG : Good φ) (h1 : φ 104 1 = 0) : TxK φ := by
  obtain ⟨⟨⟨g1, g2, g3, g4⟩, g5⟩, r1, r2, -⟩ := hG
  exact ⟨by omega, g3, g4, g5, r1, r2⟩
theorem TxK.kp (h : TxK φ) : TxK (kpF φ) := by
  obtain ⟨k1, k2, k3, k4, k5, k6⟩ := h
  refine ⟨?_, fun k hk => ?_, fun k hk => ?_, ?_, fun k => ?_, fun k => ?_⟩
  · rw [kpF_o (by omega) (by omega)]; exact k1
  · rw [kpF_o (by omega) (by omega)]; exact k2 k hk
  · rw [kpF_o (by omega) (by omega)]; exact k3 k hk
  · unfold KwK at *
    rw [kpF_o (a := 104) (k := 8) (by omega) (by omega), kpF_o (a := 104) (k := 9) (by omega) (by omega)]; exact k4
  · refine ⟨?_, ?_, ?_, ?_, ?_⟩
    · rw [kpF_r (by omega)]; split <;> exact (k5 _).1
    · rw [kpF_r (by omega)]; split <;> exact (k5 _).2.1
    · rw [kpF_r (by omega)]; split <;> exact (k5 _).2.2.1
    · rw [kpF_r (by omega)]; split <;> exact (k5 _).2.2.2.1
    · rw [kpF_r (by omega)]; split <;> exact (k5 _).2.2.2.2
  · refine ⟨?_, ?_, ?_⟩
    · rw [kpF_r (by omega)]; split <;> exact (k6 _).1
    · rw [kpF_r (by omega)]; split <;> exact (k6 _).2.1
    · rw [kpF_r (by omega)]; split <;> exact (k6 _).2.2
end CFRAME

