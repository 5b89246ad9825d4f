section CPACES
variable {T : TT} {b : Nat} {ρ : RT} {f : IT} {g : JT} {c : CC} {q : Int} {st : Nat}
theorem pth_way (hk : TOK T) (hC : CR c) {h : Nat} (hh : h < nHo T) (hst : st < 2501) (h0 : (vst T c (T 117 h) q (nLa T) 0 st).1 ≠ 99999) : ∀ i, i ≤ nLa T → pth T c (T 117 h) q st i < 2501 ∧ (vst T c (T 117 h) q (nLa T - i) i (pth T c (T 117 h) q st i)).1 ≠ 99999 ∧ ∃ A : Int, dg T c (T 117 h) q (nLa T) 0 st = A * 16 ^ (nLa T - i) + dg T c (T 117 h) q (nLa T - i) i (pth T c (T 117 h) q st i)
  | 0, _ => ⟨hst, h0, 0, by rw [Int.zero_mul, Int.zero_add]; rfl⟩
  | i + 1, hi => by
    obtain ⟨a1, a2, A, a3⟩ := pth_way hk hC hh hst h0 i (by omega)
    have e : nLa T - i = (nLa T - (i + 1)) + 1 := by omega
    rw [e] at a2 a3
    obtain ⟨p, p1, p2, p3, p4, p5, p6⟩ := vst_spec a2
    have ep : pth T c (T 117 h) q st (i + 1) = nsp T c (T 117 h) i p (pth T c (T 117 h) q st i) := by
      rw [pth, e, p6]
      simp
    have tr := tq_rng hk hC (k := i) (by omega) hh (p := p) (by omega) a1
    have eP : (vst T c (T 117 h) q (nLa T - (i + 1) + 1) i (pth T c (T 117 h) q st i)).2 = (p : Int) := by rw [p6]
    rw [dg, eP, Int.toNat_natCast, Int.pow_succ, ← ep] at a3
    rw [← ep] at p5
    refine ⟨by rw [ep]; exact tr.2.2.2, p5, A * 16 + (p : Int), ?_⟩
    rw [a3, Int.add_mul, Int.mul_assoc A 16, Int.mul_comm 16 (16 ^ _), Int.add_assoc]
/-- the digit of a stretch in the best way -/
theorem bw_digit (hk : TOK T) (hC : CR c) {h : Nat} (hh : h < nHo T) (hst : st < 2501) (h0 : (vst T c (T 117 h) q (nLa T) 0 st).1 ≠ 99999) {k : Nat} (hl : k < nLa T) : ∃ M : Int, 0 ≤ M ∧ bwV T c (T 117 h) q st / 16 ^ (nLa T - 1 - k) = M * 16 + (vst T c (T 117 h) q (nLa T - k) k (pth T c (T 117 h) q st k)).2 ∧ 1 ≤ (vst T c (T 117 h) q (nLa T - k) k (pth T c (T 117 h) q st k)).2 ∧ (vst T c (T 117 h) q (nLa T - k) k (pth T c (T 117 h) q st k)).2 ≤ 9 := by
  have h6 := hk.la
  obtain ⟨a1, a2, A, a3⟩ := pth_way hk hC hh hst h0 k (by omega)
  have e : nLa T - k = (nLa T - 1 - k) + 1 := by omega
  have hw := ((vst_way hk hC hh (q := q) (nLa T) 0 st (by omega) hst).1 h0).2.1
  have hr := vst_rng hk hC hh (q := q) (nLa T) 0 st (by omega) hst
  generalize hn : nLa T - 1 - k = n at *
  rw [e] at a2 a3 ⊢
  obtain ⟨p, p1, p2, p3, p4, p5, p6⟩ := vst_spec a2
  have tr := tq_rng hk hC (k := k) (by omega) hh (p := p) (by omega) a1
  have hw2 := ((vst_way hk hC hh (q := q) n (k + 1) _ (by omega) tr.2.2.2).1 p5).2.1
  have eP : (vst T c (T 117 h) q (n + 1) k (pth T c (T 117 h) q st k)).2 = (p : Int) := by rw [p6]
  rw [dg, eP, Int.toNat_natCast, Int.pow_succ] at a3
  rw [eP]
  have hX1 := p16_pos n
  have hn5 : n ≤ 5 := by omega
  obtain ⟨d, hd⟩ : ∃ d : Int, (16777216 : Int) = d * 16 * 16 ^ n := by
    rcases (by omega : n = 0 ∨ n = 1 ∨ n = 2 ∨ n = 3 ∨ n = 4 ∨ n = 5) with r | r | r | r | r | r <;> rw [r]
    · exact ⟨1048576, by decide⟩
    · exact ⟨65536, by decide⟩
    · exact ⟨4096, by decide⟩
    · exact ⟨256, by decide⟩
    · exact ⟨16, by decide⟩
    · exact ⟨1, by decide⟩
  have eB : bwV T c (T 117 h) q st = dg T c (T 117 h) q n (k + 1) (nsp T c (T 117 h) k p (pth T c (T 117 h) q st k)) + (((vst T c (T 117 h) q (nLa T) 0 st).1 * d + A) * 16 + (p : Int)) * 16 ^ n := by
    unfold bwV BB
    rw [if_neg h0, a3, hd]
    generalize (vst T c (T 117 h) q (nLa T) 0 st).1 = V
    generalize dg T c (T 117 h) q n (k + 1) (nsp T c (T 117 h) k p (pth T c (T 117 h) q st k)) = D
    generalize (16 : Int) ^ n = X
    have z1 : V * (d * 16 * X) = V * d * 16 * X := by rw [← Int.mul_assoc, ← Int.mul_assoc]
    have z2 : A * (X * 16) = A * 16 * X := by rw [Int.mul_comm X 16, Int.mul_assoc]
    rw [z1, z2, Int.add_mul, Int.add_mul, Int.add_mul]
    omega
  have hB0 : 0 ≤ bwV T c (T 117 h) q st := by
    unfold bwV BB
    rw [if_neg h0]
    omega
  have eD : bwV T c (T 117 h) q st / 16 ^ n = ((vst T c (T 117 h) q (nLa T) 0 st).1 * d + A) * 16 + (p : Int) := by
    rw [eB, Int.add_mul_ediv_right _ _ (by omega), Int.ediv_eq_zero_of_lt hw2.1 hw2.2, Int.zero_add]
  have hD0 : 0 ≤ bwV T c (T 117 h) q st / 16 ^ n := Int.ediv_nonneg hB0 (by omega)
  refine ⟨(vst T c (T 117 h) q (nLa T) 0 st).1 * d + A, ?_, eD, by omega, by omega⟩
  rw [eD] at hD0
  omega
end CPACES

