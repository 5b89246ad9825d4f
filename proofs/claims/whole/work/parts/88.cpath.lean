/-! ways through the lane: whole ways by their beginnings and by their ends -/
section PATH
variable {T : TT} {c : CC} {hc q : Int} {st : Nat}
def alv (T : TT) (c : CC) (hc q : Int) (k p j : Nat) : Prop := (1 ≤ p ∧ p ≤ 9) ∧ alw k q p ∧ (tq T c hc k p j).2.2.1 ≠ 0
def ext (t p x : Int) : Int := (x / 16777216 + t) * 16777216 + (x % 16777216 * 16 + p)
/-- x is a way of k stretches to j -/
def Pf (T : TT) (c : CC) (hc q : Int) (st : Nat) : Nat → Nat → Int → Prop
  | 0, j, x => j = st ∧ x = 0
  | k + 1, j', x => ∃ (j : Nat) (x0 : Int) (p : Nat), Pf T c hc q st k j x0 ∧ alv T c hc q k p j ∧ nsp T c hc k p j = j' ∧ x = ext (tq T c hc k p j).1 p x0
/-- x is a way of n stretches from stretch k and j on -/
def Sf (T : TT) (c : CC) (hc q : Int) : Nat → Nat → Nat → Int → Prop
  | 0, _, _, x => x = 0
  | n + 1, k, j, x => ∃ (p : Nat) (x' : Int), alv T c hc q k p j ∧ Sf T c hc q n (k + 1) (nsp T c hc k p j) x' ∧ x = (tq T c hc k p j).1 * 16777216 + (p : Int) * 16 ^ n + x'
def comb (x0 : Int) (m : Nat) (x1 : Int) : Int := x0 / 16777216 * 16777216 + x0 % 16777216 * 16 ^ m + x1
theorem p16 (m : Nat) : (16 : Int) ^ (m + 1) = 16 ^ m * 16 := Int.pow_succ 16 m
theorem p16_pos (m : Nat) : 1 ≤ (16 : Int) ^ m := by
  induction m with
  | zero => simp
  | succ m ih => rw [p16]; omega
theorem p16_le {m n : Nat} (h : m ≤ n) : (16 : Int) ^ m ≤ 16 ^ n := by
  induction n with
  | zero => rw [show m = 0 by omega]; omega
  | succ n ih =>
    by_cases e : m = n + 1
    · rw [e]; omega
    · have := ih (by omega)
      have := p16_pos n
      rw [p16 n]
      omega
theorem tq_rng' (hk : TOK T) (hC : CR c) {k : Nat} (hl : k < nLa T) {h : Nat} (hh : h < nHo T) {p : Nat} (hp : 1 ≤ p ∧ p ≤ 9) {i : Nat} (hi : i < 2501) : (0 ≤ (tq T c (T 117 h) k p i).1 ∧ (tq T c (T 117 h) k p i).1 ≤ 1980) ∧ nsp T c (T 117 h) k p i < 2501 := by
  have := tq_rng hk hC hl hh hp hi
  exact ⟨this.1, this.2.2.2⟩
theorem ext_at {t p x : Int} {k : Nat} (hp : 1 ≤ p ∧ p ≤ 9) (hx : 0 ≤ x % 16777216 ∧ x % 16777216 < 16 ^ k) (hk : k < 6) : ext t p x / 16777216 = x / 16777216 + t ∧ ext t p x % 16777216 = x % 16777216 * 16 + p := by
  have h5 : (16 : Int) ^ k ≤ 16 ^ 5 := p16_le (by omega)
  have e5 : (16 : Int) ^ 5 = 1048576 := by decide
  rw [e5] at h5
  unfold ext
  omega
theorem Pf_rng (hk : TOK T) (hC : CR c) {h : Nat} (hh : h < nHo T) (hst : st < 2501) : ∀ (k j : Nat) (x : Int), k ≤ nLa T → Pf T c (T 117 h) q st k j x → j < 2501 ∧ (0 ≤ x % 16777216 ∧ x % 16777216 < 16 ^ k) ∧ (0 ≤ x / 16777216 ∧ x / 16777216 ≤ 1980 * k)
  | 0, j, x, _, hx => by obtain ⟨rfl, rfl⟩ := hx; exact ⟨hst, by decide, by decide⟩
  | k + 1, j', x, hkn, hx => by
    have h6 := hk.la
    obtain ⟨j, x0, p, h1, h2, h3, rfl⟩ := hx
    have ih := Pf_rng hk hC hh hst k j x0 (by omega) h1
    have ht := tq_rng' hk hC (k := k) (by omega) hh h2.1 ih.1
    have he := ext_at (t := (tq T c (T 117 h) k p j).1) (p := (p : Int)) (by have := h2.1; omega) ih.2.1 (by omega)
    rw [he.1, he.2, p16]
    refine ⟨by rw [← h3]; exact ht.2, ?_, ?_⟩
    · have := h2.1; have := ih.2.1; omega
    · have := ih.2.2; have := ht.1; omega
theorem comb_ext {t p x0 x1 : Int} {k m : Nat} (hp : 1 ≤ p ∧ p ≤ 9) (hx : 0 ≤ x0 % 16777216 ∧ x0 % 16777216 < 16 ^ k) (hk : k < 6) : comb (ext t p x0) m x1 = comb x0 (m + 1) (t * 16777216 + p * 16 ^ m + x1) := by
  have he := ext_at (t := t) hp hx hk
  unfold comb
  rw [he.1, he.2, p16, Int.add_mul, Int.add_mul (x0 % 16777216 * 16) p]
  have e : x0 % 16777216 * (16 ^ m * 16) = x0 % 16777216 * 16 * 16 ^ m := by rw [Int.mul_comm (16 ^ m) 16, Int.mul_assoc]
  rw [e]
  omega
theorem Pf_Sf (hk : TOK T) (hC : CR c) {h : Nat} (hh : h < nHo T) (hst : st < 2501) : ∀ (k j m : Nat) (x0 x1 : Int), k + m ≤ nLa T → Pf T c (T 117 h) q st k j x0 → Sf T c (T 117 h) q m k j x1 → Sf T c (T 117 h) q (k + m) 0 st (comb x0 m x1)
  | 0, j, m, x0, x1, _, h1, h2 => by
    obtain ⟨rfl, rfl⟩ := h1
    have e : comb 0 m x1 = x1 := by unfold comb; simp
    rw [e, Nat.zero_add]
    exact h2
  | k + 1, j', m, x0, x1, hkm, h1, h2 => by
    have h6 := hk.la
    obtain ⟨j, y0, p, g1, g2, g3, rfl⟩ := h1
    have hr := Pf_rng hk hC hh hst k j y0 (by omega) g1
    rw [comb_ext (by have := g2.1; omega) hr.2.1 (by omega), show k + 1 + m = k + (m + 1) by omega]
    exact Pf_Sf hk hC hh hst k j (m + 1) y0 _ (by omega) g1 ⟨p, x1, g2, by rw [g3]; exact h2, rfl⟩
theorem Sf_Pf (hk : TOK T) (hC : CR c) {h : Nat} (hh : h < nHo T) (hst : st < 2501) : ∀ (m k j : Nat) (x0 x1 : Int), k + m ≤ nLa T → Pf T c (T 117 h) q st k j x0 → Sf T c (T 117 h) q m k j x1 → ∃ j', Pf T c (T 117 h) q st (k + m) j' (comb x0 m x1)
  | 0, k, j, x0, x1, _, h1, h2 => by
    have h2' : x1 = 0 := h2
    subst h2'
    have e : comb x0 0 0 = x0 := by unfold comb; simp; omega
    rw [e]
    exact ⟨j, h1⟩
  | m + 1, k, j, x0, x1, hkm, h1, h2 => by
    have h6 := hk.la
    obtain ⟨p, x', g1, g2, rfl⟩ := h2
    have hr := Pf_rng hk hC hh hst k j x0 (by omega) h1
    rw [← comb_ext (by have := g1.1; omega) hr.2.1 (by omega), show k + (m + 1) = k + 1 + m by omega]
    exact Sf_Pf hk hC hh hst m (k + 1) _ _ x' (by omega) ⟨j, x0, p, h1, g1, rfl, rfl⟩ g2
/-- a whole way is a whole way -/
theorem ways_iff (hk : TOK T) (hC : CR c) {h : Nat} (hh : h < nHo T) (hst : st < 2501) {x : Int} : (∃ j, Pf T c (T 117 h) q st (nLa T) j x) ↔ Sf T c (T 117 h) q (nLa T) 0 st x := by
  constructor
  · rintro ⟨j, hj⟩
    have := Pf_Sf hk hC hh hst (nLa T) j 0 x 0 (by omega) hj rfl
    have e : comb x 0 0 = x := by unfold comb; simp; omega
    rw [e] at this
    exact this
  · intro hx
    have := Sf_Pf hk hC hh hst (nLa T) 0 st 0 x (by omega) ⟨rfl, rfl⟩ hx
    have e : comb 0 (nLa T) x = x := by unfold comb; simp
    rw [e, Nat.zero_add] at this
    exact this
/-! the reference's least way -/
def okq (T : TT) (c : CC) (hc q : Int) (k i : Nat) (v : Nat → Int) (p : Nat) : Prop := alv T c hc q k p i ∧ v (nsp T c hc k p i) ≠ 99999
def vlq (T : TT) (c : CC) (hc : Int) (k i : Nat) (v : Nat → Int) (p : Nat) : Int := (tq T c hc k p i).1 + v (nsp T c hc k p i)
theorem bstep_min {k i : Nat} {v : Nat → Int} : ∀ (n p : Nat) (x : Int × Int), 1 ≤ p → p + n ≤ 10 →
    (bstep T c hc q k i v n p x).1 ≤ x.1 ∧ (∀ p', p ≤ p' → p' < p + n → okq T c hc q k i v p' → (bstep T c hc q k i v n p x).1 ≤ vlq T c hc k i v p') ∧
    (bstep T c hc q k i v n p x = x ∨ ∃ p', p ≤ p' ∧ p' < p + n ∧ okq T c hc q k i v p' ∧ bstep T c hc q k i v n p x = (vlq T c hc k i v p', (p' : Int)) ∧ vlq T c hc k i v p' < x.1 ∧ (∀ p'', p ≤ p'' → p'' < p' → okq T c hc q k i v p'' → vlq T c hc k i v p' < vlq T c hc k i v p''))
  | 0, p, x, _, _ => ⟨by simp [bstep], fun p' h1 h2 => by omega, Or.inl rfl⟩
  | n + 1, p, x, h1, h2 => by
    rw [bstep]
    have hcond : ((¬ (k = 0 ∧ 0 < q ∧ (p : Int) ≠ q)) ∧ (tq T c hc k p i).2.2.1 ≠ 0 ∧ v (nsp T c hc k p i) ≠ 99999 ∧ (tq T c hc k p i).1 + v (nsp T c hc k p i) < x.1) ↔ (okq T c hc q k i v p ∧ vlq T c hc k i v p < x.1) := by
      unfold okq alv alw vlq
      constructor
      · rintro ⟨a, b, d, e⟩; exact ⟨⟨⟨by omega, a, b⟩, d⟩, e⟩
      · rintro ⟨⟨⟨-, a, b⟩, d⟩, e⟩; exact ⟨a, b, d, e⟩
    by_cases z : okq T c hc q k i v p ∧ vlq T c hc k i v p < x.1
    · rw [if_pos (hcond.mpr z)]
      obtain ⟨g1, g2, g3⟩ := bstep_min (k := k) (i := i) (v := v) n (p + 1) ((tq T c hc k p i).1 + v (nsp T c hc k p i), (p : Int)) (by omega) (by omega)
      generalize bstep T c hc q k i v n (p + 1) ((tq T c hc k p i).1 + v (nsp T c hc k p i), (p : Int)) = y at *
      have g1' : y.1 ≤ vlq T c hc k i v p := g1
      refine ⟨by have := z.2; omega, fun p' a1 a2 a3 => ?_, Or.inr ?_⟩
      · by_cases e : p' = p
        · rw [e]; exact g1'
        · exact g2 p' (by omega) (by omega) a3
      · rcases g3 with g3 | ⟨p', b1, b2, b3, b4, b6, b5⟩
        · exact ⟨p, by omega, by omega, z.1, g3, z.2, fun p'' a1 a2 => by omega⟩
        · have b6' : vlq T c hc k i v p' < vlq T c hc k i v p := b6
          exact ⟨p', by omega, by omega, b3, b4, by have := z.2; omega, fun p'' a1 a2 a3 => by
            by_cases e2 : p'' = p
            · rw [e2]; exact b6'
            · exact b5 p'' (by omega) a2 a3⟩
    · rw [if_neg (fun w => z (hcond.mp w))]
      obtain ⟨g1, g2, g3⟩ := bstep_min (k := k) (i := i) (v := v) n (p + 1) x (by omega) (by omega)
      generalize bstep T c hc q k i v n (p + 1) x = y at *
      refine ⟨g1, fun p' a1 a2 a3 => ?_, ?_⟩
      · by_cases e : p' = p
        · have : ¬ vlq T c hc k i v p < x.1 := fun w => z ⟨by rw [e] at a3; exact a3, w⟩
          rw [e]; omega
        · exact g2 p' (by omega) (by omega) a3
      · rcases g3 with g3 | ⟨p', b1, b2, b3, b4, b6, b5⟩
        · exact Or.inl g3
        · refine Or.inr ⟨p', by omega, by omega, b3, b4, b6, fun p'' a1 a2 a3 => ?_⟩
          by_cases e2 : p'' = p
          · have : ¬ vlq T c hc k i v p < x.1 := fun w => z ⟨by rw [e2] at a3; exact a3, w⟩
            rw [e2]; omega
          · exact b5 p'' (by omega) a2 a3
/-- the paces of the reference's way, in base 16 -/
def dg (T : TT) (c : CC) (hc q : Int) : Nat → Nat → Nat → Int
  | 0, _, _ => 0
  | n + 1, k, j => (vst T c hc q (n + 1) k j).2 * 16 ^ n + dg T c hc q n (k + 1) (nsp T c hc k (vst T c hc q (n + 1) k j).2.toNat j)
def BB (T : TT) (c : CC) (hc q : Int) (n k j : Nat) : Int := (vst T c hc q n k j).1 * 16777216 + dg T c hc q n k j
theorem vst_way (hk : TOK T) (hC : CR c) {h : Nat} (hh : h < nHo T) : ∀ (n k j : Nat), k + n = nLa T → j < 2501 →
    ((vst T c (T 117 h) q n k j).1 ≠ 99999 → Sf T c (T 117 h) q n k j (BB T c (T 117 h) q n k j) ∧ (0 ≤ dg T c (T 117 h) q n k j ∧ dg T c (T 117 h) q n k j < 16 ^ n) ∧ ∀ x, Sf T c (T 117 h) q n k j x → BB T c (T 117 h) q n k j ≤ x) ∧ ((vst T c (T 117 h) q n k j).1 = 99999 → ∀ x, ¬ Sf T c (T 117 h) q n k j x)
  | 0, k, j, _, _ => by
    refine ⟨fun _ => ⟨?_, by simp [dg], fun x hx => ?_⟩, fun hx => ?_⟩
    · show BB T c (T 117 h) q 0 k j = 0
      simp [BB, vst, dg]
    · have hx' : x = 0 := hx
      rw [hx']
      simp [BB, vst, dg]
    · simp [vst] at hx
  | n + 1, k, j, hkn, hj => by
    have h6 := hk.la
    have hl : k < nLa T := by omega
    have hX5 : (16 : Int) ^ n ≤ 16 ^ 5 := p16_le (by omega)
    have e5 : (16 : Int) ^ 5 = 1048576 := by decide
    rw [e5] at hX5
    have hX1 := p16_pos n
    have ih := fun (p : Nat) (hp : 1 ≤ p ∧ p ≤ 9) => vst_way hk hC hh n (k + 1) (nsp T c (T 117 h) k p j) (by omega) (tq_rng' hk hC hl hh hp hj).2
    have hrg := fun (p : Nat) (hp : 1 ≤ p ∧ p ≤ 9) => vst_rng hk hC hh (q := q) n (k + 1) (nsp T c (T 117 h) k p j) (by omega) (tq_rng' hk hC hl hh hp hj).2
    have hbm := bstep_min (T := T) (c := c) (hc := T 117 h) (q := q) (k := k) (i := j) (v := fun i => (vst T c (T 117 h) q n (k + 1) i).1) 9 1 (99999, 0) (by omega) (by omega)
    have ev : vst T c (T 117 h) q (n + 1) k j = bstep T c (T 117 h) q k j (fun i => (vst T c (T 117 h) q n (k + 1) i).1) 9 1 (99999, 0) := rfl
    rw [← ev] at hbm
    obtain ⟨-, m2, m3⟩ := hbm
    have hval : ∀ p, okq T c (T 117 h) q k j (fun i => (vst T c (T 117 h) q n (k + 1) i).1) p → vlq T c (T 117 h) k j (fun i => (vst T c (T 117 h) q n (k + 1) i).1) p ≤ 11880 := fun p hp => by
      have a1 := hrg p hp.1.1
      have a2 := tq_rng' hk hC hl hh hp.1.1 hj
      have a3 : (vst T c (T 117 h) q n (k + 1) (nsp T c (T 117 h) k p j)).1 ≠ 99999 := hp.2
      unfold vlq
      simp only
      omega
    rcases m3 with m3 | ⟨p, p1, p2, p3, p4, p6, p5⟩
    · refine ⟨fun hne => absurd (by rw [m3]) hne, fun _ x hx => ?_⟩
      obtain ⟨p, x', g1, g2, -⟩ := hx
      have hv : ¬ (vst T c (T 117 h) q n (k + 1) (nsp T c (T 117 h) k p j)).1 = 99999 := fun e => (ih p g1.1).2 e x' g2
      have := m2 p (by have := g1.1; omega) (by have := g1.1; omega) ⟨g1, hv⟩
      rw [m3] at this
      have := hval p ⟨g1, hv⟩
      simp only at *
      omega
    · have hv : (vst T c (T 117 h) q n (k + 1) (nsp T c (T 117 h) k p j)).1 ≠ 99999 := p3.2
      obtain ⟨i1, i2, i3⟩ := (ih p p3.1.1).1 hv
      have eV : (vst T c (T 117 h) q (n + 1) k j).1 = (tq T c (T 117 h) k p j).1 + (vst T c (T 117 h) q n (k + 1) (nsp T c (T 117 h) k p j)).1 := by rw [p4]; rfl
      have eP : (vst T c (T 117 h) q (n + 1) k j).2 = (p : Int) := by rw [p4]
      have eD : dg T c (T 117 h) q (n + 1) k j = (p : Int) * 16 ^ n + dg T c (T 117 h) q n (k + 1) (nsp T c (T 117 h) k p j) := by
        rw [dg, eP, Int.toNat_natCast]
      have hpX : (p : Int) * 16 ^ n ≤ 9 * 16 ^ n := Int.mul_le_mul_of_nonneg_right (by have := p3.1.1; omega) (by omega)
      have hpX0 : 0 ≤ (p : Int) * 16 ^ n := Int.mul_nonneg (by omega) (by omega)
      refine ⟨fun _ => ⟨⟨p, BB T c (T 117 h) q n (k + 1) (nsp T c (T 117 h) k p j), p3.1, i1, ?_⟩, ?_, fun x hx => ?_⟩, fun e => ?_⟩
      · unfold BB
        rw [eV, eD]
        omega
      · rw [eD, p16]
        omega
      · obtain ⟨p', x', g1, g2, rfl⟩ := hx
        have hv' : (vst T c (T 117 h) q n (k + 1) (nsp T c (T 117 h) k p' j)).1 ≠ 99999 := fun e => (ih p' g1.1).2 e x' g2
        obtain ⟨j1, j2, j3⟩ := (ih p' g1.1).1 hv'
        have hle := j3 x' g2
        have hmin := m2 p' (by have := g1.1; omega) (by have := g1.1; omega) ⟨g1, hv'⟩
        have hmin' : (vst T c (T 117 h) q (n + 1) k j).1 ≤ (tq T c (T 117 h) k p' j).1 + (vst T c (T 117 h) q n (k + 1) (nsp T c (T 117 h) k p' j)).1 := hmin
        have hp'0 : 0 ≤ (p' : Int) * 16 ^ n := Int.mul_nonneg (by omega) (by omega)
        unfold BB at *
        rw [eD]
        by_cases e : (vst T c (T 117 h) q (n + 1) k j).1 = (tq T c (T 117 h) k p' j).1 + (vst T c (T 117 h) q n (k + 1) (nsp T c (T 117 h) k p' j)).1
        · have hpp : p ≤ p' := by
            rcases Nat.lt_or_ge p' p with w | w
            · have := p5 p' (by have := g1.1; omega) w ⟨g1, hv'⟩
              unfold vlq at this
              simp only at this
              omega
            · exact w
          by_cases e2 : p = p'
          · subst e2
            omega
          · have hX : ((p : Int) + 1) * 16 ^ n ≤ (p' : Int) * 16 ^ n := Int.mul_le_mul_of_nonneg_right (by omega) (by omega)
            rw [Int.add_mul] at hX
            omega
        · omega
      · exfalso
        have := hval p p3
        unfold vlq at this
        simp only at this
        omega
end PATH

